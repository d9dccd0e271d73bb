section
-- ===== PART A: goes FIRST, ahead of the names: the tables' words, and 'selects' of the private methods out of them =====
/-- a private method of a class that the tables say can be made, by its rows of tables_1 -/
def lw_okq (q : MethodName × Nat) : Prop := (q.1.cls ≠ "java/lang/invoke/MethodHandle" ∧ q.1.cls ≠ "java/lang/invoke/VarHandle") ∧ Cond.instantiable q.1.cls q.2 ∈ tables_1 ∧ Cond.privateMethod q.1 ∈ tables_1 ∧ Cond.instanceMethod q.1 ∈ tables_1
theorem lw_p0 : lw_okq (⟨"ShiftedShapes$Piece", "insert", "(I)I"⟩, 3) := ⟨⟨by decide +kernel, by decide +kernel⟩, List.mem_of_getElem? (i := 40) (by decide +kernel), List.mem_of_getElem? (i := 186) (by decide +kernel), List.mem_of_getElem? (i := 187) (by decide +kernel)⟩
theorem lw_p1 : lw_okq (⟨"ShiftedShapes$Script", "append", "(I)Z"⟩, 3) := ⟨⟨by decide +kernel, by decide +kernel⟩, List.mem_of_getElem? (i := 22) (by decide +kernel), List.mem_of_getElem? (i := 234) (by decide +kernel), List.mem_of_getElem? (i := 235) (by decide +kernel)⟩
theorem lw_p2 : lw_okq (⟨"ShiftedShapes$Script", "readInto", "(LShiftedShapes$Piece;)I"⟩, 3) := ⟨⟨by decide +kernel, by decide +kernel⟩, List.mem_of_getElem? (i := 22) (by decide +kernel), List.mem_of_getElem? (i := 246) (by decide +kernel), List.mem_of_getElem? (i := 247) (by decide +kernel)⟩
theorem lw_p3 : lw_okq (⟨"ShiftedShapes$Script", "readItem", "(LShiftedShapes$Piece;)Z"⟩, 3) := ⟨⟨by decide +kernel, by decide +kernel⟩, List.mem_of_getElem? (i := 22) (by decide +kernel), List.mem_of_getElem? (i := 250) (by decide +kernel), List.mem_of_getElem? (i := 251) (by decide +kernel)⟩
theorem lw_p4 : lw_okq (⟨"ShiftedShapes$Script", "skip", "(I)Z"⟩, 3) := ⟨⟨by decide +kernel, by decide +kernel⟩, List.mem_of_getElem? (i := 22) (by decide +kernel), List.mem_of_getElem? (i := 254) (by decide +kernel), List.mem_of_getElem? (i := 255) (by decide +kernel)⟩
theorem lw_p5 : lw_okq (⟨"ShiftedShapes$Script", "readNote", "(LShiftedShapes$Piece;)Z"⟩, 3) := ⟨⟨by decide +kernel, by decide +kernel⟩, List.mem_of_getElem? (i := 22) (by decide +kernel), List.mem_of_getElem? (i := 258) (by decide +kernel), List.mem_of_getElem? (i := 259) (by decide +kernel)⟩
theorem lw_p6 : lw_okq (⟨"ShiftedShapes$Script", "readNumber", "()I"⟩, 3) := ⟨⟨by decide +kernel, by decide +kernel⟩, List.mem_of_getElem? (i := 22) (by decide +kernel), List.mem_of_getElem? (i := 262) (by decide +kernel), List.mem_of_getElem? (i := 263) (by decide +kernel)⟩
theorem lw_p7 : lw_okq (⟨"ShiftedShapes$Script", "isFigure", "()Z"⟩, 3) := ⟨⟨by decide +kernel, by decide +kernel⟩, List.mem_of_getElem? (i := 22) (by decide +kernel), List.mem_of_getElem? (i := 266) (by decide +kernel), List.mem_of_getElem? (i := 267) (by decide +kernel)⟩
theorem lw_p8 : lw_okq (⟨"ShiftedShapes$Piece", "numberOf", "(I)I"⟩, 3) := ⟨⟨by decide +kernel, by decide +kernel⟩, List.mem_of_getElem? (i := 40) (by decide +kernel), List.mem_of_getElem? (i := 275) (by decide +kernel), List.mem_of_getElem? (i := 276) (by decide +kernel)⟩
theorem lw_p9 : lw_okq (⟨"ShiftedShapes$Script", "readManner", "(LShiftedShapes$Piece;)Z"⟩, 3) := ⟨⟨by decide +kernel, by decide +kernel⟩, List.mem_of_getElem? (i := 22) (by decide +kernel), List.mem_of_getElem? (i := 280) (by decide +kernel), List.mem_of_getElem? (i := 281) (by decide +kernel)⟩
theorem lw_p10 : lw_okq (⟨"ShiftedShapes$Piece", "copyFrom", "(LShiftedShapes$Piece;)V"⟩, 3) := ⟨⟨by decide +kernel, by decide +kernel⟩, List.mem_of_getElem? (i := 40) (by decide +kernel), List.mem_of_getElem? (i := 288) (by decide +kernel), List.mem_of_getElem? (i := 289) (by decide +kernel)⟩
theorem lw_p11 : lw_okq (⟨"ShiftedShapes", "forgetFindings", "()V"⟩, 13) := ⟨⟨by decide +kernel, by decide +kernel⟩, List.mem_of_getElem? (i := 14) (by decide +kernel), List.mem_of_getElem? (i := 295) (by decide +kernel), List.mem_of_getElem? (i := 296) (by decide +kernel)⟩
theorem lw_p12 : lw_okq (⟨"ShiftedShapes", "isNote", "(I)Z"⟩, 13) := ⟨⟨by decide +kernel, by decide +kernel⟩, List.mem_of_getElem? (i := 14) (by decide +kernel), List.mem_of_getElem? (i := 303) (by decide +kernel), List.mem_of_getElem? (i := 304) (by decide +kernel)⟩
theorem lw_p13 : lw_okq (⟨"ShiftedShapes$Piece", "timeOf", "(I)I"⟩, 3) := ⟨⟨by decide +kernel, by decide +kernel⟩, List.mem_of_getElem? (i := 40) (by decide +kernel), List.mem_of_getElem? (i := 307) (by decide +kernel), List.mem_of_getElem? (i := 308) (by decide +kernel)⟩
theorem lw_p14 : lw_okq (⟨"ShiftedShapes$Piece", "pitchOf", "(I)I"⟩, 3) := ⟨⟨by decide +kernel, by decide +kernel⟩, List.mem_of_getElem? (i := 40) (by decide +kernel), List.mem_of_getElem? (i := 311) (by decide +kernel), List.mem_of_getElem? (i := 312) (by decide +kernel)⟩
theorem lw_p15 : lw_okq (⟨"ShiftedShapes", "beginAct", "()V"⟩, 13) := ⟨⟨by decide +kernel, by decide +kernel⟩, List.mem_of_getElem? (i := 14) (by decide +kernel), List.mem_of_getElem? (i := 321) (by decide +kernel), List.mem_of_getElem? (i := 322) (by decide +kernel)⟩
def lw_privs_1 : List (MethodName × Nat) := [(⟨"ShiftedShapes$Piece", "insert", "(I)I"⟩, 3), (⟨"ShiftedShapes$Script", "append", "(I)Z"⟩, 3), (⟨"ShiftedShapes$Script", "readInto", "(LShiftedShapes$Piece;)I"⟩, 3), (⟨"ShiftedShapes$Script", "readItem", "(LShiftedShapes$Piece;)Z"⟩, 3), (⟨"ShiftedShapes$Script", "skip", "(I)Z"⟩, 3), (⟨"ShiftedShapes$Script", "readNote", "(LShiftedShapes$Piece;)Z"⟩, 3), (⟨"ShiftedShapes$Script", "readNumber", "()I"⟩, 3), (⟨"ShiftedShapes$Script", "isFigure", "()Z"⟩, 3), (⟨"ShiftedShapes$Piece", "numberOf", "(I)I"⟩, 3), (⟨"ShiftedShapes$Script", "readManner", "(LShiftedShapes$Piece;)Z"⟩, 3), (⟨"ShiftedShapes$Piece", "copyFrom", "(LShiftedShapes$Piece;)V"⟩, 3), (⟨"ShiftedShapes", "forgetFindings", "()V"⟩, 13), (⟨"ShiftedShapes", "isNote", "(I)Z"⟩, 13), (⟨"ShiftedShapes$Piece", "timeOf", "(I)I"⟩, 3), (⟨"ShiftedShapes$Piece", "pitchOf", "(I)I"⟩, 3), (⟨"ShiftedShapes", "beginAct", "()V"⟩, 13)]
theorem lw_r1 : ∀ q ∈ lw_privs_1, lw_okq q := List.forall_mem_cons.mpr ⟨lw_p0, List.forall_mem_cons.mpr ⟨lw_p1, List.forall_mem_cons.mpr ⟨lw_p2, List.forall_mem_cons.mpr ⟨lw_p3, List.forall_mem_cons.mpr ⟨lw_p4, List.forall_mem_cons.mpr ⟨lw_p5, List.forall_mem_cons.mpr ⟨lw_p6, List.forall_mem_cons.mpr ⟨lw_p7, List.forall_mem_cons.mpr ⟨lw_p8, List.forall_mem_cons.mpr ⟨lw_p9, List.forall_mem_cons.mpr ⟨lw_p10, List.forall_mem_cons.mpr ⟨lw_p11, List.forall_mem_cons.mpr ⟨lw_p12, List.forall_mem_cons.mpr ⟨lw_p13, List.forall_mem_cons.mpr ⟨lw_p14, List.forall_mem_cons.mpr ⟨lw_p15, fun _ h => absurd h List.not_mem_nil⟩⟩⟩⟩⟩⟩⟩⟩⟩⟩⟩⟩⟩⟩⟩⟩
theorem lw_p16 : lw_okq (⟨"ShiftedShapes$Pile", "push", "(LShiftedShapes$Piece;)V"⟩, 2) := ⟨⟨by decide +kernel, by decide +kernel⟩, List.mem_of_getElem? (i := 62) (by decide +kernel), List.mem_of_getElem? (i := 325) (by decide +kernel), List.mem_of_getElem? (i := 326) (by decide +kernel)⟩
theorem lw_p17 : lw_okq (⟨"ShiftedShapes$Pile", "dropOldest", "()V"⟩, 2) := ⟨⟨by decide +kernel, by decide +kernel⟩, List.mem_of_getElem? (i := 62) (by decide +kernel), List.mem_of_getElem? (i := 329) (by decide +kernel), List.mem_of_getElem? (i := 330) (by decide +kernel)⟩
theorem lw_p18 : lw_okq (⟨"ShiftedShapes$Piece", "remove", "(I)V"⟩, 3) := ⟨⟨by decide +kernel, by decide +kernel⟩, List.mem_of_getElem? (i := 40) (by decide +kernel), List.mem_of_getElem? (i := 338) (by decide +kernel), List.mem_of_getElem? (i := 339) (by decide +kernel)⟩
theorem lw_p19 : lw_okq (⟨"ShiftedShapes", "isMove", "(II)Z"⟩, 13) := ⟨⟨by decide +kernel, by decide +kernel⟩, List.mem_of_getElem? (i := 14) (by decide +kernel), List.mem_of_getElem? (i := 346) (by decide +kernel), List.mem_of_getElem? (i := 347) (by decide +kernel)⟩
theorem lw_p20 : lw_okq (⟨"ShiftedShapes", "isShift", "(II)Z"⟩, 13) := ⟨⟨by decide +kernel, by decide +kernel⟩, List.mem_of_getElem? (i := 14) (by decide +kernel), List.mem_of_getElem? (i := 350) (by decide +kernel), List.mem_of_getElem? (i := 351) (by decide +kernel)⟩
theorem lw_p21 : lw_okq (⟨"ShiftedShapes", "staysWithin", "(III)Z"⟩, 13) := ⟨⟨by decide +kernel, by decide +kernel⟩, List.mem_of_getElem? (i := 14) (by decide +kernel), List.mem_of_getElem? (i := 354) (by decide +kernel), List.mem_of_getElem? (i := 355) (by decide +kernel)⟩
theorem lw_p22 : lw_okq (⟨"ShiftedShapes$Piece", "moveAll", "(I)V"⟩, 3) := ⟨⟨by decide +kernel, by decide +kernel⟩, List.mem_of_getElem? (i := 40) (by decide +kernel), List.mem_of_getElem? (i := 362) (by decide +kernel), List.mem_of_getElem? (i := 363) (by decide +kernel)⟩
theorem lw_p23 : lw_okq (⟨"ShiftedShapes$Pile", "popInto", "(LShiftedShapes$Piece;)V"⟩, 2) := ⟨⟨by decide +kernel, by decide +kernel⟩, List.mem_of_getElem? (i := 62) (by decide +kernel), List.mem_of_getElem? (i := 374) (by decide +kernel), List.mem_of_getElem? (i := 375) (by decide +kernel)⟩
theorem lw_p24 : lw_okq (⟨"ShiftedShapes", "wholeSearch", "()LShiftedShapes$Search;"⟩, 13) := ⟨⟨by decide +kernel, by decide +kernel⟩, List.mem_of_getElem? (i := 14) (by decide +kernel), List.mem_of_getElem? (i := 382) (by decide +kernel), List.mem_of_getElem? (i := 383) (by decide +kernel)⟩
theorem lw_p25 : lw_okq (⟨"ShiftedShapes$Piece", "allNotes", "()I"⟩, 3) := ⟨⟨by decide +kernel, by decide +kernel⟩, List.mem_of_getElem? (i := 40) (by decide +kernel), List.mem_of_getElem? (i := 386) (by decide +kernel), List.mem_of_getElem? (i := 387) (by decide +kernel)⟩
theorem lw_p26 : lw_okq (⟨"ShiftedShapes$Search", "lookOver", "(LShiftedShapes$Piece;I)V"⟩, 12) := ⟨⟨by decide +kernel, by decide +kernel⟩, List.mem_of_getElem? (i := 82) (by decide +kernel), List.mem_of_getElem? (i := 390) (by decide +kernel), List.mem_of_getElem? (i := 391) (by decide +kernel)⟩
theorem lw_p27 : lw_okq (⟨"ShiftedShapes$Search", "findLargests", "()V"⟩, 12) := ⟨⟨by decide +kernel, by decide +kernel⟩, List.mem_of_getElem? (i := 82) (by decide +kernel), List.mem_of_getElem? (i := 404) (by decide +kernel), List.mem_of_getElem? (i := 405) (by decide +kernel)⟩
theorem lw_p28 : lw_okq (⟨"ShiftedShapes$Search", "enterPair", "(II)V"⟩, 12) := ⟨⟨by decide +kernel, by decide +kernel⟩, List.mem_of_getElem? (i := 82) (by decide +kernel), List.mem_of_getElem? (i := 408) (by decide +kernel), List.mem_of_getElem? (i := 409) (by decide +kernel)⟩
theorem lw_p29 : lw_okq (⟨"ShiftedShapes$Search", "enter", "(III)V"⟩, 12) := ⟨⟨by decide +kernel, by decide +kernel⟩, List.mem_of_getElem? (i := 82) (by decide +kernel), List.mem_of_getElem? (i := 415) (by decide +kernel), List.mem_of_getElem? (i := 416) (by decide +kernel)⟩
theorem lw_p30 : lw_okq (⟨"ShiftedShapes$Search", "findWideShifts", "()V"⟩, 12) := ⟨⟨by decide +kernel, by decide +kernel⟩, List.mem_of_getElem? (i := 82) (by decide +kernel), List.mem_of_getElem? (i := 425) (by decide +kernel), List.mem_of_getElem? (i := 426) (by decide +kernel)⟩
theorem lw_p31 : lw_okq (⟨"ShiftedShapes$Search", "findShapes", "()V"⟩, 12) := ⟨⟨by decide +kernel, by decide +kernel⟩, List.mem_of_getElem? (i := 82) (by decide +kernel), List.mem_of_getElem? (i := 432) (by decide +kernel), List.mem_of_getElem? (i := 433) (by decide +kernel)⟩
def lw_privs_2 : List (MethodName × Nat) := [(⟨"ShiftedShapes$Pile", "push", "(LShiftedShapes$Piece;)V"⟩, 2), (⟨"ShiftedShapes$Pile", "dropOldest", "()V"⟩, 2), (⟨"ShiftedShapes$Piece", "remove", "(I)V"⟩, 3), (⟨"ShiftedShapes", "isMove", "(II)Z"⟩, 13), (⟨"ShiftedShapes", "isShift", "(II)Z"⟩, 13), (⟨"ShiftedShapes", "staysWithin", "(III)Z"⟩, 13), (⟨"ShiftedShapes$Piece", "moveAll", "(I)V"⟩, 3), (⟨"ShiftedShapes$Pile", "popInto", "(LShiftedShapes$Piece;)V"⟩, 2), (⟨"ShiftedShapes", "wholeSearch", "()LShiftedShapes$Search;"⟩, 13), (⟨"ShiftedShapes$Piece", "allNotes", "()I"⟩, 3), (⟨"ShiftedShapes$Search", "lookOver", "(LShiftedShapes$Piece;I)V"⟩, 12), (⟨"ShiftedShapes$Search", "findLargests", "()V"⟩, 12), (⟨"ShiftedShapes$Search", "enterPair", "(II)V"⟩, 12), (⟨"ShiftedShapes$Search", "enter", "(III)V"⟩, 12), (⟨"ShiftedShapes$Search", "findWideShifts", "()V"⟩, 12), (⟨"ShiftedShapes$Search", "findShapes", "()V"⟩, 12)]
theorem lw_r2 : ∀ q ∈ lw_privs_2, lw_okq q := List.forall_mem_cons.mpr ⟨lw_p16, List.forall_mem_cons.mpr ⟨lw_p17, List.forall_mem_cons.mpr ⟨lw_p18, List.forall_mem_cons.mpr ⟨lw_p19, List.forall_mem_cons.mpr ⟨lw_p20, List.forall_mem_cons.mpr ⟨lw_p21, List.forall_mem_cons.mpr ⟨lw_p22, List.forall_mem_cons.mpr ⟨lw_p23, List.forall_mem_cons.mpr ⟨lw_p24, List.forall_mem_cons.mpr ⟨lw_p25, List.forall_mem_cons.mpr ⟨lw_p26, List.forall_mem_cons.mpr ⟨lw_p27, List.forall_mem_cons.mpr ⟨lw_p28, List.forall_mem_cons.mpr ⟨lw_p29, List.forall_mem_cons.mpr ⟨lw_p30, List.forall_mem_cons.mpr ⟨lw_p31, fun _ h => absurd h List.not_mem_nil⟩⟩⟩⟩⟩⟩⟩⟩⟩⟩⟩⟩⟩⟩⟩⟩
theorem lw_p32 : lw_okq (⟨"ShiftedShapes$Search", "isShape", "(I)Z"⟩, 12) := ⟨⟨by decide +kernel, by decide +kernel⟩, List.mem_of_getElem? (i := 82) (by decide +kernel), List.mem_of_getElem? (i := 436) (by decide +kernel), List.mem_of_getElem? (i := 437) (by decide +kernel)⟩
theorem lw_p33 : lw_okq (⟨"ShiftedShapes$Search", "measureShape", "(I)V"⟩, 12) := ⟨⟨by decide +kernel, by decide +kernel⟩, List.mem_of_getElem? (i := 82) (by decide +kernel), List.mem_of_getElem? (i := 440) (by decide +kernel), List.mem_of_getElem? (i := 441) (by decide +kernel)⟩
theorem lw_p34 : lw_okq (⟨"ShiftedShapes$Search", "met", "(III)I"⟩, 12) := ⟨⟨by decide +kernel, by decide +kernel⟩, List.mem_of_getElem? (i := 82) (by decide +kernel), List.mem_of_getElem? (i := 450) (by decide +kernel), List.mem_of_getElem? (i := 451) (by decide +kernel)⟩
theorem lw_p35 : lw_okq (⟨"ShiftedShapes$Search", "numberAt", "(II)I"⟩, 12) := ⟨⟨by decide +kernel, by decide +kernel⟩, List.mem_of_getElem? (i := 82) (by decide +kernel), List.mem_of_getElem? (i := 454) (by decide +kernel), List.mem_of_getElem? (i := 455) (by decide +kernel)⟩
theorem lw_p36 : lw_okq (⟨"ShiftedShapes$Search", "largestOf", "(II)I"⟩, 12) := ⟨⟨by decide +kernel, by decide +kernel⟩, List.mem_of_getElem? (i := 82) (by decide +kernel), List.mem_of_getElem? (i := 458) (by decide +kernel), List.mem_of_getElem? (i := 459) (by decide +kernel)⟩
theorem lw_p37 : lw_okq (⟨"ShiftedShapes$Search", "gainOf", "(I)I"⟩, 12) := ⟨⟨by decide +kernel, by decide +kernel⟩, List.mem_of_getElem? (i := 82) (by decide +kernel), List.mem_of_getElem? (i := 471) (by decide +kernel), List.mem_of_getElem? (i := 472) (by decide +kernel)⟩
theorem lw_p38 : lw_okq (⟨"ShiftedShapes$Search", "placesOf", "(I)I"⟩, 12) := ⟨⟨by decide +kernel, by decide +kernel⟩, List.mem_of_getElem? (i := 82) (by decide +kernel), List.mem_of_getElem? (i := 485) (by decide +kernel), List.mem_of_getElem? (i := 486) (by decide +kernel)⟩
theorem lw_p39 : lw_okq (⟨"ShiftedShapes$Search", "placeOf", "(II)I"⟩, 12) := ⟨⟨by decide +kernel, by decide +kernel⟩, List.mem_of_getElem? (i := 82) (by decide +kernel), List.mem_of_getElem? (i := 489) (by decide +kernel), List.mem_of_getElem? (i := 490) (by decide +kernel)⟩
theorem lw_p40 : lw_okq (⟨"ShiftedShapes$Search", "bestShape", "()I"⟩, 12) := ⟨⟨by decide +kernel, by decide +kernel⟩, List.mem_of_getElem? (i := 82) (by decide +kernel), List.mem_of_getElem? (i := 497) (by decide +kernel), List.mem_of_getElem? (i := 498) (by decide +kernel)⟩
theorem lw_p41 : lw_okq (⟨"ShiftedShapes$Search", "isBetter", "(II)Z"⟩, 12) := ⟨⟨by decide +kernel, by decide +kernel⟩, List.mem_of_getElem? (i := 82) (by decide +kernel), List.mem_of_getElem? (i := 501) (by decide +kernel), List.mem_of_getElem? (i := 502) (by decide +kernel)⟩
theorem lw_p42 : lw_okq (⟨"ShiftedShapes$Parting", "takeApart", "(LShiftedShapes$Piece;LShiftedShapes$Search;)V"⟩, 6) := ⟨⟨by decide +kernel, by decide +kernel⟩, List.mem_of_getElem? (i := 135) (by decide +kernel), List.mem_of_getElem? (i := 510) (by decide +kernel), List.mem_of_getElem? (i := 511) (by decide +kernel)⟩
theorem lw_p43 : lw_okq (⟨"ShiftedShapes$Parting", "setAside", "(LShiftedShapes$Search;I)V"⟩, 6) := ⟨⟨by decide +kernel, by decide +kernel⟩, List.mem_of_getElem? (i := 135) (by decide +kernel), List.mem_of_getElem? (i := 518) (by decide +kernel), List.mem_of_getElem? (i := 519) (by decide +kernel)⟩
theorem lw_p44 : lw_okq (⟨"ShiftedShapes$Covering", "fewestOf", "(LShiftedShapes$Search;)I"⟩, 2) := ⟨⟨by decide +kernel, by decide +kernel⟩, List.mem_of_getElem? (i := 166) (by decide +kernel), List.mem_of_getElem? (i := 531) (by decide +kernel), List.mem_of_getElem? (i := 532) (by decide +kernel)⟩
theorem lw_p45 : lw_okq (⟨"ShiftedShapes$Covering", "gather", "(LShiftedShapes$Search;)V"⟩, 2) := ⟨⟨by decide +kernel, by decide +kernel⟩, List.mem_of_getElem? (i := 166) (by decide +kernel), List.mem_of_getElem? (i := 535) (by decide +kernel), List.mem_of_getElem? (i := 536) (by decide +kernel)⟩
theorem lw_p46 : lw_okq (⟨"ShiftedShapes$Search", "covered", "()I"⟩, 12) := ⟨⟨by decide +kernel, by decide +kernel⟩, List.mem_of_getElem? (i := 82) (by decide +kernel), List.mem_of_getElem? (i := 542) (by decide +kernel), List.mem_of_getElem? (i := 543) (by decide +kernel)⟩
theorem lw_p47 : lw_okq (⟨"ShiftedShapes", "findBetter", "()V"⟩, 13) := ⟨⟨by decide +kernel, by decide +kernel⟩, List.mem_of_getElem? (i := 14) (by decide +kernel), List.mem_of_getElem? (i := 560) (by decide +kernel), List.mem_of_getElem? (i := 561) (by decide +kernel)⟩
def lw_privs_3 : List (MethodName × Nat) := [(⟨"ShiftedShapes$Search", "isShape", "(I)Z"⟩, 12), (⟨"ShiftedShapes$Search", "measureShape", "(I)V"⟩, 12), (⟨"ShiftedShapes$Search", "met", "(III)I"⟩, 12), (⟨"ShiftedShapes$Search", "numberAt", "(II)I"⟩, 12), (⟨"ShiftedShapes$Search", "largestOf", "(II)I"⟩, 12), (⟨"ShiftedShapes$Search", "gainOf", "(I)I"⟩, 12), (⟨"ShiftedShapes$Search", "placesOf", "(I)I"⟩, 12), (⟨"ShiftedShapes$Search", "placeOf", "(II)I"⟩, 12), (⟨"ShiftedShapes$Search", "bestShape", "()I"⟩, 12), (⟨"ShiftedShapes$Search", "isBetter", "(II)Z"⟩, 12), (⟨"ShiftedShapes$Parting", "takeApart", "(LShiftedShapes$Piece;LShiftedShapes$Search;)V"⟩, 6), (⟨"ShiftedShapes$Parting", "setAside", "(LShiftedShapes$Search;I)V"⟩, 6), (⟨"ShiftedShapes$Covering", "fewestOf", "(LShiftedShapes$Search;)I"⟩, 2), (⟨"ShiftedShapes$Covering", "gather", "(LShiftedShapes$Search;)V"⟩, 2), (⟨"ShiftedShapes$Search", "covered", "()I"⟩, 12), (⟨"ShiftedShapes", "findBetter", "()V"⟩, 13)]
theorem lw_r3 : ∀ q ∈ lw_privs_3, lw_okq q := List.forall_mem_cons.mpr ⟨lw_p32, List.forall_mem_cons.mpr ⟨lw_p33, List.forall_mem_cons.mpr ⟨lw_p34, List.forall_mem_cons.mpr ⟨lw_p35, List.forall_mem_cons.mpr ⟨lw_p36, List.forall_mem_cons.mpr ⟨lw_p37, List.forall_mem_cons.mpr ⟨lw_p38, List.forall_mem_cons.mpr ⟨lw_p39, List.forall_mem_cons.mpr ⟨lw_p40, List.forall_mem_cons.mpr ⟨lw_p41, List.forall_mem_cons.mpr ⟨lw_p42, List.forall_mem_cons.mpr ⟨lw_p43, List.forall_mem_cons.mpr ⟨lw_p44, List.forall_mem_cons.mpr ⟨lw_p45, List.forall_mem_cons.mpr ⟨lw_p46, List.forall_mem_cons.mpr ⟨lw_p47, fun _ h => absurd h List.not_mem_nil⟩⟩⟩⟩⟩⟩⟩⟩⟩⟩⟩⟩⟩⟩⟩⟩
theorem lw_p48 : lw_okq (⟨"ShiftedShapes", "drawOnce", "(II)V"⟩, 13) := ⟨⟨by decide +kernel, by decide +kernel⟩, List.mem_of_getElem? (i := 14) (by decide +kernel), List.mem_of_getElem? (i := 568) (by decide +kernel), List.mem_of_getElem? (i := 569) (by decide +kernel)⟩
theorem lw_p49 : lw_okq (⟨"ShiftedShapesModel", "begins", "()V"⟩, 27) := ⟨⟨by decide +kernel, by decide +kernel⟩, List.mem_of_getElem? (i := 587) (by decide +kernel), List.mem_of_getElem? (i := 593) (by decide +kernel), List.mem_of_getElem? (i := 594) (by decide +kernel)⟩
theorem lw_p50 : lw_okq (⟨"ShiftedShapesModel", "reading", "()I"⟩, 27) := ⟨⟨by decide +kernel, by decide +kernel⟩, List.mem_of_getElem? (i := 587) (by decide +kernel), List.mem_of_getElem? (i := 700) (by decide +kernel), List.mem_of_getElem? (i := 701) (by decide +kernel)⟩
theorem lw_p51 : lw_okq (⟨"ShiftedShapesModel", "readsItem", "()Z"⟩, 27) := ⟨⟨by decide +kernel, by decide +kernel⟩, List.mem_of_getElem? (i := 587) (by decide +kernel), List.mem_of_getElem? (i := 704) (by decide +kernel), List.mem_of_getElem? (i := 705) (by decide +kernel)⟩
theorem lw_p52 : lw_okq (⟨"ShiftedShapesModel", "here", "()I"⟩, 27) := ⟨⟨by decide +kernel, by decide +kernel⟩, List.mem_of_getElem? (i := 587) (by decide +kernel), List.mem_of_getElem? (i := 708) (by decide +kernel), List.mem_of_getElem? (i := 709) (by decide +kernel)⟩
theorem lw_p53 : lw_okq (⟨"ShiftedShapesModel", "number", "(II)I"⟩, 27) := ⟨⟨by decide +kernel, by decide +kernel⟩, List.mem_of_getElem? (i := 587) (by decide +kernel), List.mem_of_getElem? (i := 712) (by decide +kernel), List.mem_of_getElem? (i := 713) (by decide +kernel)⟩
theorem lw_p54 : lw_okq (⟨"ShiftedShapesModel", "isNote", "(I)Z"⟩, 27) := ⟨⟨by decide +kernel, by decide +kernel⟩, List.mem_of_getElem? (i := 587) (by decide +kernel), List.mem_of_getElem? (i := 727) (by decide +kernel), List.mem_of_getElem? (i := 728) (by decide +kernel)⟩
theorem lw_p55 : lw_okq (⟨"ShiftedShapesModel", "notes", "()V"⟩, 27) := ⟨⟨by decide +kernel, by decide +kernel⟩, List.mem_of_getElem? (i := 587) (by decide +kernel), List.mem_of_getElem? (i := 738) (by decide +kernel), List.mem_of_getElem? (i := 739) (by decide +kernel)⟩
theorem lw_p56 : lw_okq (⟨"ShiftedShapesModel", "isShift", "(II)Z"⟩, 27) := ⟨⟨by decide +kernel, by decide +kernel⟩, List.mem_of_getElem? (i := 587) (by decide +kernel), List.mem_of_getElem? (i := 753) (by decide +kernel), List.mem_of_getElem? (i := 754) (by decide +kernel)⟩
theorem lw_p57 : lw_okq (⟨"ShiftedShapesModel", "lays", "([II)V"⟩, 27) := ⟨⟨by decide +kernel, by decide +kernel⟩, List.mem_of_getElem? (i := 587) (by decide +kernel), List.mem_of_getElem? (i := 776) (by decide +kernel), List.mem_of_getElem? (i := 777) (by decide +kernel)⟩
theorem lw_p58 : lw_okq (⟨"ShiftedShapesModel", "firstPitch", "()I"⟩, 27) := ⟨⟨by decide +kernel, by decide +kernel⟩, List.mem_of_getElem? (i := 587) (by decide +kernel), List.mem_of_getElem? (i := 783) (by decide +kernel), List.mem_of_getElem? (i := 784) (by decide +kernel)⟩
theorem lw_p59 : lw_okq (⟨"ShiftedShapesModel", "metBy", "([IIII)I"⟩, 27) := ⟨⟨by decide +kernel, by decide +kernel⟩, List.mem_of_getElem? (i := 587) (by decide +kernel), List.mem_of_getElem? (i := 787) (by decide +kernel), List.mem_of_getElem? (i := 788) (by decide +kernel)⟩
theorem lw_p60 : lw_okq (⟨"ShiftedShapesModel", "standsAt", "(II)I"⟩, 27) := ⟨⟨by decide +kernel, by decide +kernel⟩, List.mem_of_getElem? (i := 587) (by decide +kernel), List.mem_of_getElem? (i := 791) (by decide +kernel), List.mem_of_getElem? (i := 792) (by decide +kernel)⟩
theorem lw_p61 : lw_okq (⟨"ShiftedShapesModel", "findsShapes", "([II)V"⟩, 27) := ⟨⟨by decide +kernel, by decide +kernel⟩, List.mem_of_getElem? (i := 587) (by decide +kernel), List.mem_of_getElem? (i := 803) (by decide +kernel), List.mem_of_getElem? (i := 804) (by decide +kernel)⟩
theorem lw_p62 : lw_okq (⟨"ShiftedShapesModel", "isNew", "(I)Z"⟩, 27) := ⟨⟨by decide +kernel, by decide +kernel⟩, List.mem_of_getElem? (i := 587) (by decide +kernel), List.mem_of_getElem? (i := 810) (by decide +kernel), List.mem_of_getElem? (i := 811) (by decide +kernel)⟩
theorem lw_p63 : lw_okq (⟨"ShiftedShapesModel", "looksAt", "([II)V"⟩, 27) := ⟨⟨by decide +kernel, by decide +kernel⟩, List.mem_of_getElem? (i := 587) (by decide +kernel), List.mem_of_getElem? (i := 814) (by decide +kernel), List.mem_of_getElem? (i := 815) (by decide +kernel)⟩
def lw_privs_4 : List (MethodName × Nat) := [(⟨"ShiftedShapes", "drawOnce", "(II)V"⟩, 13), (⟨"ShiftedShapesModel", "begins", "()V"⟩, 27), (⟨"ShiftedShapesModel", "reading", "()I"⟩, 27), (⟨"ShiftedShapesModel", "readsItem", "()Z"⟩, 27), (⟨"ShiftedShapesModel", "here", "()I"⟩, 27), (⟨"ShiftedShapesModel", "number", "(II)I"⟩, 27), (⟨"ShiftedShapesModel", "isNote", "(I)Z"⟩, 27), (⟨"ShiftedShapesModel", "notes", "()V"⟩, 27), (⟨"ShiftedShapesModel", "isShift", "(II)Z"⟩, 27), (⟨"ShiftedShapesModel", "lays", "([II)V"⟩, 27), (⟨"ShiftedShapesModel", "firstPitch", "()I"⟩, 27), (⟨"ShiftedShapesModel", "metBy", "([IIII)I"⟩, 27), (⟨"ShiftedShapesModel", "standsAt", "(II)I"⟩, 27), (⟨"ShiftedShapesModel", "findsShapes", "([II)V"⟩, 27), (⟨"ShiftedShapesModel", "isNew", "(I)Z"⟩, 27), (⟨"ShiftedShapesModel", "looksAt", "([II)V"⟩, 27)]
theorem lw_r4 : ∀ q ∈ lw_privs_4, lw_okq q := List.forall_mem_cons.mpr ⟨lw_p48, List.forall_mem_cons.mpr ⟨lw_p49, List.forall_mem_cons.mpr ⟨lw_p50, List.forall_mem_cons.mpr ⟨lw_p51, List.forall_mem_cons.mpr ⟨lw_p52, List.forall_mem_cons.mpr ⟨lw_p53, List.forall_mem_cons.mpr ⟨lw_p54, List.forall_mem_cons.mpr ⟨lw_p55, List.forall_mem_cons.mpr ⟨lw_p56, List.forall_mem_cons.mpr ⟨lw_p57, List.forall_mem_cons.mpr ⟨lw_p58, List.forall_mem_cons.mpr ⟨lw_p59, List.forall_mem_cons.mpr ⟨lw_p60, List.forall_mem_cons.mpr ⟨lw_p61, List.forall_mem_cons.mpr ⟨lw_p62, List.forall_mem_cons.mpr ⟨lw_p63, fun _ h => absurd h List.not_mem_nil⟩⟩⟩⟩⟩⟩⟩⟩⟩⟩⟩⟩⟩⟩⟩⟩
theorem lw_p64 : lw_okq (⟨"ShiftedShapesModel", "gainOf", "(I)I"⟩, 27) := ⟨⟨by decide +kernel, by decide +kernel⟩, List.mem_of_getElem? (i := 587) (by decide +kernel), List.mem_of_getElem? (i := 818) (by decide +kernel), List.mem_of_getElem? (i := 819) (by decide +kernel)⟩
theorem lw_p65 : lw_okq (⟨"ShiftedShapesModel", "findsBest", "([II)V"⟩, 27) := ⟨⟨by decide +kernel, by decide +kernel⟩, List.mem_of_getElem? (i := 587) (by decide +kernel), List.mem_of_getElem? (i := 830) (by decide +kernel), List.mem_of_getElem? (i := 831) (by decide +kernel)⟩
theorem lw_p66 : lw_okq (⟨"ShiftedShapesModel", "isParted", "([I)V"⟩, 27) := ⟨⟨by decide +kernel, by decide +kernel⟩, List.mem_of_getElem? (i := 587) (by decide +kernel), List.mem_of_getElem? (i := 838) (by decide +kernel), List.mem_of_getElem? (i := 839) (by decide +kernel)⟩
theorem lw_p67 : lw_okq (⟨"ShiftedShapesModel", "fewest", "(I)I"⟩, 27) := ⟨⟨by decide +kernel, by decide +kernel⟩, List.mem_of_getElem? (i := 587) (by decide +kernel), List.mem_of_getElem? (i := 850) (by decide +kernel), List.mem_of_getElem? (i := 851) (by decide +kernel)⟩
theorem lw_p68 : lw_okq (⟨"ShiftedShapesModel", "happens", "(I)V"⟩, 27) := ⟨⟨by decide +kernel, by decide +kernel⟩, List.mem_of_getElem? (i := 587) (by decide +kernel), List.mem_of_getElem? (i := 869) (by decide +kernel), List.mem_of_getElem? (i := 870) (by decide +kernel)⟩
def lw_privs_5 : List (MethodName × Nat) := [(⟨"ShiftedShapesModel", "gainOf", "(I)I"⟩, 27), (⟨"ShiftedShapesModel", "findsBest", "([II)V"⟩, 27), (⟨"ShiftedShapesModel", "isParted", "([I)V"⟩, 27), (⟨"ShiftedShapesModel", "fewest", "(I)I"⟩, 27), (⟨"ShiftedShapesModel", "happens", "(I)V"⟩, 27)]
theorem lw_r5 : ∀ q ∈ lw_privs_5, lw_okq q := List.forall_mem_cons.mpr ⟨lw_p64, List.forall_mem_cons.mpr ⟨lw_p65, List.forall_mem_cons.mpr ⟨lw_p66, List.forall_mem_cons.mpr ⟨lw_p67, List.forall_mem_cons.mpr ⟨lw_p68, fun _ h => absurd h List.not_mem_nil⟩⟩⟩⟩⟩
def lw_privs : List (MethodName × Nat) := lw_privs_1 ++ (lw_privs_2 ++ (lw_privs_3 ++ (lw_privs_4 ++ (lw_privs_5))))
def lw_tbl : List Cond := k2_sels lw_privs ++ tables_1
theorem lw_privs_ok : ∀ q ∈ lw_privs, lw_okq q := by
  show ∀ q ∈ lw_privs_1 ++ (lw_privs_2 ++ (lw_privs_3 ++ (lw_privs_4 ++ (lw_privs_5)))), lw_okq q
  exact List.forall_mem_append.mpr ⟨lw_r1, List.forall_mem_append.mpr ⟨lw_r2, List.forall_mem_append.mpr ⟨lw_r3, List.forall_mem_append.mpr ⟨lw_r4, lw_r5⟩⟩⟩⟩
end
section
def RX0 : String := "ShiftedShapes$Covering"
def TX0 : u_T := fun k => match k with
  | 0 => ("ShiftedShapes$Covering", "covers", "[I", true)
  | _ => ("ShiftedShapes$Covering", "size", "I", false)
def tyX0 : Nat → FieldType := fun k => match k with
  | 0 => .array .int
  | _ => .int
abbrev wsX00 : List Cond := u_ws RX0 TX0 2
theorem nmX0 : ∀ a, a < 2 → ∀ b, b < 2 → a ≠ b → (TX0 a).2.1 ≠ (TX0 b).2.1 := by decide +kernel
theorem tyX0_ok : ∀ k, k < 2 → parseFieldDescriptor (TX0 k).2.2.1 = some (tyX0 k) := by decide +kernel
abbrev cX0_init : ByteArray := prog_2_method_1_code
def yX0_init : MethodName := ⟨RX0, "<init>", "()V"⟩
abbrev cX0_fewestOf : ByteArray := prog_2_method_2_code
def yX0_fewestOf : MethodName := ⟨RX0, "fewestOf", "(LShiftedShapes$Search;)I"⟩
abbrev cX0_gather : ByteArray := prog_2_method_3_code
def yX0_gather : MethodName := ⟨RX0, "gather", "(LShiftedShapes$Search;)V"⟩
abbrev cX0_isWithinAnother : ByteArray := prog_2_method_4_code
def yX0_isWithinAnother : MethodName := ⟨RX0, "isWithinAnother", "(LShiftedShapes$Search;I)Z"⟩
abbrev cX0_isReached : ByteArray := prog_2_method_5_code
def yX0_isReached : MethodName := ⟨RX0, "isReached", "([IIII)Z"⟩
def RX1 : String := "ShiftedShapes$Parting"
def TX1 : u_T := fun k => match k with
  | 0 => ("ShiftedShapes$Parting", "sets", "[I", true)
  | 1 => ("ShiftedShapes$Parting", "places", "[I", true)
  | 2 => ("ShiftedShapes$Parting", "covers", "[I", true)
  | 3 => ("ShiftedShapes$Parting", "size", "I", false)
  | 4 => ("ShiftedShapes$Parting", "rest", "I", false)
  | _ => ("ShiftedShapes$Parting", "price", "I", false)
def tyX1 : Nat → FieldType := fun k => match k with
  | 0 => .array .int
  | 1 => .array .int
  | 2 => .array .int
  | 3 => .int
  | 4 => .int
  | _ => .int
abbrev wsX10 : List Cond := u_ws RX1 TX1 6
theorem nmX1 : ∀ a, a < 6 → ∀ b, b < 6 → a ≠ b → (TX1 a).2.1 ≠ (TX1 b).2.1 := by decide +kernel
theorem tyX1_ok : ∀ k, k < 6 → parseFieldDescriptor (TX1 k).2.2.1 = some (tyX1 k) := by decide +kernel
abbrev cX1_init : ByteArray := prog_3_method_1_code
def yX1_init : MethodName := ⟨RX1, "<init>", "()V"⟩
abbrev cX1_takeApart : ByteArray := prog_3_method_2_code
def yX1_takeApart : MethodName := ⟨RX1, "takeApart", "(LShiftedShapes$Piece;LShiftedShapes$Search;)V"⟩
abbrev cX1_setAside : ByteArray := prog_3_method_3_code
def yX1_setAside : MethodName := ⟨RX1, "setAside", "(LShiftedShapes$Search;I)V"⟩
def RX2 : String := "ShiftedShapes$Piece"
def TX2 : u_T := fun k => match k with
  | 0 => ("ShiftedShapes$Piece", "codes", "[I", true)
  | 1 => ("ShiftedShapes$Piece", "size", "I", false)
  | _ => ("ShiftedShapes$Piece", "manner", "I", false)
def tyX2 : Nat → FieldType := fun k => match k with
  | 0 => .array .int
  | 1 => .int
  | _ => .int
abbrev wsX20 : List Cond := u_ws RX2 TX2 3
theorem nmX2 : ∀ a, a < 3 → ∀ b, b < 3 → a ≠ b → (TX2 a).2.1 ≠ (TX2 b).2.1 := by decide +kernel
theorem tyX2_ok : ∀ k, k < 3 → parseFieldDescriptor (TX2 k).2.2.1 = some (tyX2 k) := by decide +kernel
abbrev cX2_init : ByteArray := prog_4_method_1_code
def yX2_init : MethodName := ⟨RX2, "<init>", "()V"⟩
abbrev cX2_timeOf : ByteArray := prog_4_method_2_code
def yX2_timeOf : MethodName := ⟨RX2, "timeOf", "(I)I"⟩
abbrev cX2_pitchOf : ByteArray := prog_4_method_3_code
def yX2_pitchOf : MethodName := ⟨RX2, "pitchOf", "(I)I"⟩
abbrev cX2_allNotes : ByteArray := prog_4_method_4_code
def yX2_allNotes : MethodName := ⟨RX2, "allNotes", "()I"⟩
abbrev cX2_numberOf : ByteArray := prog_4_method_5_code
def yX2_numberOf : MethodName := ⟨RX2, "numberOf", "(I)I"⟩
abbrev cX2_insert : ByteArray := prog_4_method_6_code
def yX2_insert : MethodName := ⟨RX2, "insert", "(I)I"⟩
abbrev cX2_remove : ByteArray := prog_4_method_7_code
def yX2_remove : MethodName := ⟨RX2, "remove", "(I)V"⟩
abbrev cX2_moveAll : ByteArray := prog_4_method_8_code
def yX2_moveAll : MethodName := ⟨RX2, "moveAll", "(I)V"⟩
abbrev cX2_copyFrom : ByteArray := prog_4_method_9_code
def yX2_copyFrom : MethodName := ⟨RX2, "copyFrom", "(LShiftedShapes$Piece;)V"⟩
def RX3 : String := "ShiftedShapes$Pile"
def TX3 : u_T := fun k => match k with
  | 0 => ("ShiftedShapes$Pile", "pieces", "[LShiftedShapes$Piece;", true)
  | _ => ("ShiftedShapes$Pile", "size", "I", false)
def tyX3 : Nat → FieldType := fun k => match k with
  | 0 => .array (.object "ShiftedShapes$Piece")
  | _ => .int
abbrev wsX30 : List Cond := u_ws RX3 TX3 2
theorem nmX3 : ∀ a, a < 2 → ∀ b, b < 2 → a ≠ b → (TX3 a).2.1 ≠ (TX3 b).2.1 := by decide +kernel
theorem tyX3_ok : ∀ k, k < 2 → parseFieldDescriptor (TX3 k).2.2.1 = some (tyX3 k) := by decide +kernel
abbrev cX3_init : ByteArray := prog_5_method_1_code
def yX3_init : MethodName := ⟨RX3, "<init>", "(I)V"⟩
abbrev cX3_push : ByteArray := prog_5_method_2_code
def yX3_push : MethodName := ⟨RX3, "push", "(LShiftedShapes$Piece;)V"⟩
abbrev cX3_popInto : ByteArray := prog_5_method_3_code
def yX3_popInto : MethodName := ⟨RX3, "popInto", "(LShiftedShapes$Piece;)V"⟩
abbrev cX3_dropOldest : ByteArray := prog_5_method_4_code
def yX3_dropOldest : MethodName := ⟨RX3, "dropOldest", "()V"⟩
def RX4 : String := "ShiftedShapes$Script"
def TX4 : u_T := fun k => match k with
  | 0 => ("ShiftedShapes$Script", "letters", "[I", true)
  | 1 => ("ShiftedShapes$Script", "length", "I", false)
  | _ => ("ShiftedShapes$Script", "at", "I", false)
def tyX4 : Nat → FieldType := fun k => match k with
  | 0 => .array .int
  | 1 => .int
  | _ => .int
abbrev wsX40 : List Cond := u_ws RX4 TX4 3
theorem nmX4 : ∀ a, a < 3 → ∀ b, b < 3 → a ≠ b → (TX4 a).2.1 ≠ (TX4 b).2.1 := by decide +kernel
theorem tyX4_ok : ∀ k, k < 3 → parseFieldDescriptor (TX4 k).2.2.1 = some (tyX4 k) := by decide +kernel
abbrev cX4_init : ByteArray := prog_6_method_1_code
def yX4_init : MethodName := ⟨RX4, "<init>", "()V"⟩
abbrev cX4_append : ByteArray := prog_6_method_2_code
def yX4_append : MethodName := ⟨RX4, "append", "(I)Z"⟩
abbrev cX4_readInto : ByteArray := prog_6_method_3_code
def yX4_readInto : MethodName := ⟨RX4, "readInto", "(LShiftedShapes$Piece;)I"⟩
abbrev cX4_readItem : ByteArray := prog_6_method_4_code
def yX4_readItem : MethodName := ⟨RX4, "readItem", "(LShiftedShapes$Piece;)Z"⟩
abbrev cX4_readNote : ByteArray := prog_6_method_5_code
def yX4_readNote : MethodName := ⟨RX4, "readNote", "(LShiftedShapes$Piece;)Z"⟩
abbrev cX4_readManner : ByteArray := prog_6_method_6_code
def yX4_readManner : MethodName := ⟨RX4, "readManner", "(LShiftedShapes$Piece;)Z"⟩
abbrev cX4_readNumber : ByteArray := prog_6_method_7_code
def yX4_readNumber : MethodName := ⟨RX4, "readNumber", "()I"⟩
abbrev cX4_isFigure : ByteArray := prog_6_method_8_code
def yX4_isFigure : MethodName := ⟨RX4, "isFigure", "()Z"⟩
abbrev cX4_skip : ByteArray := prog_6_method_9_code
def yX4_skip : MethodName := ⟨RX4, "skip", "(I)Z"⟩
def RX5 : String := "ShiftedShapes$Search"
def TX5 : u_T := fun k => match k with
  | 0 => ("ShiftedShapes$Search", "times", "[I", true)
  | 1 => ("ShiftedShapes$Search", "pitches", "[I", true)
  | 2 => ("ShiftedShapes$Search", "numbers", "[I", true)
  | 3 => ("ShiftedShapes$Search", "largests", "[I", true)
  | 4 => ("ShiftedShapes$Search", "wideShifts", "[I", true)
  | 5 => ("ShiftedShapes$Search", "wideCount", "I", false)
  | 6 => ("ShiftedShapes$Search", "manner", "I", false)
  | 7 => ("ShiftedShapes$Search", "present", "I", false)
  | 8 => ("ShiftedShapes$Search", "shapeSets", "[I", true)
  | 9 => ("ShiftedShapes$Search", "shapePlaces", "[I", true)
  | 10 => ("ShiftedShapes$Search", "shapeCovers", "[I", true)
  | _ => ("ShiftedShapes$Search", "shapeCount", "I", false)
def tyX5 : Nat → FieldType := fun k => match k with
  | 0 => .array .int
  | 1 => .array .int
  | 2 => .array .int
  | 3 => .array .int
  | 4 => .array .int
  | 5 => .int
  | 6 => .int
  | 7 => .int
  | 8 => .array .int
  | 9 => .array .int
  | 10 => .array .int
  | _ => .int
abbrev wsX50 : List Cond := u_ws RX5 TX5 12
theorem nmX5 : ∀ a, a < 12 → ∀ b, b < 12 → a ≠ b → (TX5 a).2.1 ≠ (TX5 b).2.1 := by decide +kernel
theorem tyX5_ok : ∀ k, k < 12 → parseFieldDescriptor (TX5 k).2.2.1 = some (tyX5 k) := by decide +kernel
abbrev cX5_init : ByteArray := prog_7_method_1_code
def yX5_init : MethodName := ⟨RX5, "<init>", "()V"⟩
abbrev cX5_lookOver : ByteArray := prog_7_method_2_code
def yX5_lookOver : MethodName := ⟨RX5, "lookOver", "(LShiftedShapes$Piece;I)V"⟩
abbrev cX5_has : ByteArray := prog_7_method_3_code
def yX5_has : MethodName := ⟨RX5, "has", "(II)Z"⟩
abbrev cX5_hasTwo : ByteArray := prog_7_method_4_code
def yX5_hasTwo : MethodName := ⟨RX5, "hasTwo", "(I)Z"⟩
abbrev cX5_shiftOf : ByteArray := prog_7_method_5_code
def yX5_shiftOf : MethodName := ⟨RX5, "shiftOf", "(II)I"⟩
abbrev cX5_timePart : ByteArray := prog_7_method_6_code
def yX5_timePart : MethodName := ⟨RX5, "timePart", "(I)I"⟩
abbrev cX5_pitchPart : ByteArray := prog_7_method_7_code
def yX5_pitchPart : MethodName := ⟨RX5, "pitchPart", "(I)I"⟩
abbrev cX5_findLargests : ByteArray := prog_7_method_8_code
def yX5_findLargests : MethodName := ⟨RX5, "findLargests", "()V"⟩
abbrev cX5_enterPair : ByteArray := prog_7_method_9_code
def yX5_enterPair : MethodName := ⟨RX5, "enterPair", "(II)V"⟩
abbrev cX5_enter : ByteArray := prog_7_method_10_code
def yX5_enter : MethodName := ⟨RX5, "enter", "(III)V"⟩
abbrev cX5_isHeld : ByteArray := prog_7_method_11_code
def yX5_isHeld : MethodName := ⟨RX5, "isHeld", "(II)Z"⟩
abbrev cX5_findWideShifts : ByteArray := prog_7_method_12_code
def yX5_findWideShifts : MethodName := ⟨RX5, "findWideShifts", "()V"⟩
abbrev cX5_findShapes : ByteArray := prog_7_method_13_code
def yX5_findShapes : MethodName := ⟨RX5, "findShapes", "()V"⟩
abbrev cX5_isShape : ByteArray := prog_7_method_14_code
def yX5_isShape : MethodName := ⟨RX5, "isShape", "(I)Z"⟩
abbrev cX5_measureShape : ByteArray := prog_7_method_15_code
def yX5_measureShape : MethodName := ⟨RX5, "measureShape", "(I)V"⟩
abbrev cX5_met : ByteArray := prog_7_method_16_code
def yX5_met : MethodName := ⟨RX5, "met", "(III)I"⟩
abbrev cX5_numberAt : ByteArray := prog_7_method_17_code
def yX5_numberAt : MethodName := ⟨RX5, "numberAt", "(II)I"⟩
abbrev cX5_largestOf : ByteArray := prog_7_method_18_code
def yX5_largestOf : MethodName := ⟨RX5, "largestOf", "(II)I"⟩
abbrev cX5_placesOf : ByteArray := prog_7_method_19_code
def yX5_placesOf : MethodName := ⟨RX5, "placesOf", "(I)I"⟩
abbrev cX5_placeOf : ByteArray := prog_7_method_20_code
def yX5_placeOf : MethodName := ⟨RX5, "placeOf", "(II)I"⟩
abbrev cX5_gainOf : ByteArray := prog_7_method_21_code
def yX5_gainOf : MethodName := ⟨RX5, "gainOf", "(I)I"⟩
abbrev cX5_bestShape : ByteArray := prog_7_method_22_code
def yX5_bestShape : MethodName := ⟨RX5, "bestShape", "()I"⟩
abbrev cX5_isBetter : ByteArray := prog_7_method_23_code
def yX5_isBetter : MethodName := ⟨RX5, "isBetter", "(II)Z"⟩
abbrev cX5_covered : ByteArray := prog_7_method_24_code
def yX5_covered : MethodName := ⟨RX5, "covered", "()I"⟩
def RX6 : String := "ShiftedShapes"
def TX6 : u_T := fun k => match k with
  | 0 => ("ShiftedShapes", "script", "LShiftedShapes$Script;", true)
  | 1 => ("ShiftedShapes", "piece", "LShiftedShapes$Piece;", true)
  | 2 => ("ShiftedShapes", "trial", "LShiftedShapes$Piece;", true)
  | 3 => ("ShiftedShapes", "undoable", "LShiftedShapes$Pile;", true)
  | 4 => ("ShiftedShapes", "kept", "LShiftedShapes$Pile;", true)
  | 5 => ("ShiftedShapes", "whole", "LShiftedShapes$Search;", true)
  | 6 => ("ShiftedShapes", "scratch", "LShiftedShapes$Search;", true)
  | 7 => ("ShiftedShapes", "parts", "LShiftedShapes$Parting;", true)
  | 8 => ("ShiftedShapes", "covering", "LShiftedShapes$Covering;", true)
  | 9 => ("ShiftedShapes", "wholeKnown", "Z", false)
  | 10 => ("ShiftedShapes", "betterKnown", "Z", false)
  | 11 => ("ShiftedShapes", "betterCode", "I", false)
  | _ => ("ShiftedShapes", "betterGain", "I", false)
def tyX6 : Nat → FieldType := fun k => match k with
  | 0 => .object "ShiftedShapes$Script"
  | 1 => .object "ShiftedShapes$Piece"
  | 2 => .object "ShiftedShapes$Piece"
  | 3 => .object "ShiftedShapes$Pile"
  | 4 => .object "ShiftedShapes$Pile"
  | 5 => .object "ShiftedShapes$Search"
  | 6 => .object "ShiftedShapes$Search"
  | 7 => .object "ShiftedShapes$Parting"
  | 8 => .object "ShiftedShapes$Covering"
  | 9 => .boolean
  | 10 => .boolean
  | 11 => .int
  | _ => .int
abbrev wsX60 : List Cond := u_ws RX6 TX6 13
theorem nmX6 : ∀ a, a < 13 → ∀ b, b < 13 → a ≠ b → (TX6 a).2.1 ≠ (TX6 b).2.1 := by decide +kernel
theorem tyX6_ok : ∀ k, k < 13 → parseFieldDescriptor (TX6 k).2.2.1 = some (tyX6 k) := by decide +kernel
abbrev cX6_init : ByteArray := prog_1_method_1_code
def yX6_init : MethodName := ⟨RX6, "<init>", "()V"⟩
abbrev cX6_write : ByteArray := prog_1_method_2_code
def yX6_write : MethodName := ⟨RX6, "write", "(I)I"⟩
abbrev cX6_wipe : ByteArray := prog_1_method_3_code
def yX6_wipe : MethodName := ⟨RX6, "wipe", "()I"⟩
abbrev cX6_fault : ByteArray := prog_1_method_4_code
def yX6_fault : MethodName := ⟨RX6, "fault", "()I"⟩
abbrev cX6_lay : ByteArray := prog_1_method_5_code
def yX6_lay : MethodName := ⟨RX6, "lay", "()I"⟩
abbrev cX6_note : ByteArray := prog_1_method_6_code
def yX6_note : MethodName := ⟨RX6, "note", "(II)I"⟩
abbrev cX6_put : ByteArray := prog_1_method_7_code
def yX6_put : MethodName := ⟨RX6, "put", "(II)I"⟩
abbrev cX6_take : ByteArray := prog_1_method_8_code
def yX6_take : MethodName := ⟨RX6, "take", "(I)I"⟩
abbrev cX6_shift : ByteArray := prog_1_method_9_code
def yX6_shift : MethodName := ⟨RX6, "shift", "(III)I"⟩
abbrev cX6_shiftAll : ByteArray := prog_1_method_10_code
def yX6_shiftAll : MethodName := ⟨RX6, "shiftAll", "(II)I"⟩
abbrev cX6_mode : ByteArray := prog_1_method_11_code
def yX6_mode : MethodName := ⟨RX6, "mode", "(I)I"⟩
abbrev cX6_undo : ByteArray := prog_1_method_12_code
def yX6_undo : MethodName := ⟨RX6, "undo", "()I"⟩
abbrev cX6_largest : ByteArray := prog_1_method_13_code
def yX6_largest : MethodName := ⟨RX6, "largest", "(II)I"⟩
abbrev cX6_meets : ByteArray := prog_1_method_14_code
def yX6_meets : MethodName := ⟨RX6, "meets", "(III)I"⟩
abbrev cX6_shape : ByteArray := prog_1_method_15_code
def yX6_shape : MethodName := ⟨RX6, "shape", "(II)I"⟩
abbrev cX6_place : ByteArray := prog_1_method_16_code
def yX6_place : MethodName := ⟨RX6, "place", "(II)I"⟩
abbrev cX6_best : ByteArray := prog_1_method_17_code
def yX6_best : MethodName := ⟨RX6, "best", "(I)I"⟩
abbrev cX6_parted : ByteArray := prog_1_method_18_code
def yX6_parted : MethodName := ⟨RX6, "parted", "(II)I"⟩
abbrev cX6_parting : ByteArray := prog_1_method_19_code
def yX6_parting : MethodName := ⟨RX6, "parting", "(I)I"⟩
abbrev cX6_shapes : ByteArray := prog_1_method_20_code
def yX6_shapes : MethodName := ⟨RX6, "shapes", "(I)I"⟩
abbrev cX6_link : ByteArray := prog_1_method_21_code
def yX6_link : MethodName := ⟨RX6, "link", "(III)I"⟩
abbrev cX6_better : ByteArray := prog_1_method_22_code
def yX6_better : MethodName := ⟨RX6, "better", "(I)I"⟩
abbrev cX6_day : ByteArray := prog_1_method_23_code
def yX6_day : MethodName := ⟨RX6, "day", "(III)I"⟩
abbrev cX6_keep : ByteArray := prog_1_method_24_code
def yX6_keep : MethodName := ⟨RX6, "keep", "()I"⟩
abbrev cX6_back : ByteArray := prog_1_method_25_code
def yX6_back : MethodName := ⟨RX6, "back", "()I"⟩
abbrev cX6_count : ByteArray := prog_1_method_26_code
def yX6_count : MethodName := ⟨RX6, "count", "(I)I"⟩
abbrev cX6_beginAct : ByteArray := prog_1_method_27_code
def yX6_beginAct : MethodName := ⟨RX6, "beginAct", "()V"⟩
abbrev cX6_forgetFindings : ByteArray := prog_1_method_28_code
def yX6_forgetFindings : MethodName := ⟨RX6, "forgetFindings", "()V"⟩
abbrev cX6_wholeSearch : ByteArray := prog_1_method_29_code
def yX6_wholeSearch : MethodName := ⟨RX6, "wholeSearch", "()LShiftedShapes$Search;"⟩
abbrev cX6_findBetter : ByteArray := prog_1_method_30_code
def yX6_findBetter : MethodName := ⟨RX6, "findBetter", "()V"⟩
abbrev cX6_drawOnce : ByteArray := prog_1_method_31_code
def yX6_drawOnce : MethodName := ⟨RX6, "drawOnce", "(II)V"⟩
abbrev cX6_isNote : ByteArray := prog_1_method_32_code
def yX6_isNote : MethodName := ⟨RX6, "isNote", "(I)Z"⟩
abbrev cX6_isShift : ByteArray := prog_1_method_33_code
def yX6_isShift : MethodName := ⟨RX6, "isShift", "(II)Z"⟩
abbrev cX6_isMove : ByteArray := prog_1_method_34_code
def yX6_isMove : MethodName := ⟨RX6, "isMove", "(II)Z"⟩
abbrev cX6_staysWithin : ByteArray := prog_1_method_35_code
def yX6_staysWithin : MethodName := ⟨RX6, "staysWithin", "(III)Z"⟩
abbrev cX6_isWithin : ByteArray := prog_1_method_36_code
def yX6_isWithin : MethodName := ⟨RX6, "isWithin", "(II)Z"⟩
abbrev cX6_codeOf : ByteArray := prog_1_method_37_code
def yX6_codeOf : MethodName := ⟨RX6, "codeOf", "(II)I"⟩
def RX7 : String := "ShiftedShapesModel"
def TX7 : u_T := fun k => match k with
  | 0 => ("ShiftedShapesModel", "now", "[I", true)
  | 1 => ("ShiftedShapesModel", "read", "[I", true)
  | 2 => ("ShiftedShapesModel", "aside", "[I", true)
  | 3 => ("ShiftedShapesModel", "past", "[I", true)
  | 4 => ("ShiftedShapesModel", "undos", "I", false)
  | 5 => ("ShiftedShapesModel", "kept", "[I", true)
  | 6 => ("ShiftedShapesModel", "keeps", "I", false)
  | 7 => ("ShiftedShapesModel", "text", "[I", true)
  | 8 => ("ShiftedShapesModel", "length", "I", false)
  | 9 => ("ShiftedShapesModel", "place", "I", false)
  | 10 => ("ShiftedShapesModel", "at", "[I", true)
  | 11 => ("ShiftedShapesModel", "largest", "[I", true)
  | 12 => ("ShiftedShapesModel", "modeNow", "I", false)
  | 13 => ("ShiftedShapesModel", "places", "I", false)
  | 14 => ("ShiftedShapesModel", "cover", "I", false)
  | 15 => ("ShiftedShapesModel", "shapes", "I", false)
  | 16 => ("ShiftedShapesModel", "shape", "[I", true)
  | 17 => ("ShiftedShapesModel", "best", "I", false)
  | 18 => ("ShiftedShapesModel", "bestGain", "I", false)
  | 19 => ("ShiftedShapesModel", "bestCover", "I", false)
  | 20 => ("ShiftedShapesModel", "bestPlaces", "I", false)
  | 21 => ("ShiftedShapesModel", "parts", "I", false)
  | 22 => ("ShiftedShapesModel", "part", "[I", true)
  | 23 => ("ShiftedShapesModel", "rest", "I", false)
  | 24 => ("ShiftedShapesModel", "price", "I", false)
  | 25 => ("ShiftedShapesModel", "few", "[I", true)
  | _ => ("ShiftedShapesModel", "covers", "[I", true)
def tyX7 : Nat → FieldType := fun k => match k with
  | 0 => .array .int
  | 1 => .array .int
  | 2 => .array .int
  | 3 => .array .int
  | 4 => .int
  | 5 => .array .int
  | 6 => .int
  | 7 => .array .int
  | 8 => .int
  | 9 => .int
  | 10 => .array .int
  | 11 => .array .int
  | 12 => .int
  | 13 => .int
  | 14 => .int
  | 15 => .int
  | 16 => .array .int
  | 17 => .int
  | 18 => .int
  | 19 => .int
  | 20 => .int
  | 21 => .int
  | 22 => .array .int
  | 23 => .int
  | 24 => .int
  | 25 => .array .int
  | _ => .array .int
abbrev wsX70 : List Cond := u_ws RX7 TX7 27
theorem nmX7 : ∀ a, a < 27 → ∀ b, b < 27 → a ≠ b → (TX7 a).2.1 ≠ (TX7 b).2.1 := by decide +kernel
theorem tyX7_ok : ∀ k, k < 27 → parseFieldDescriptor (TX7 k).2.2.1 = some (tyX7 k) := by decide +kernel
abbrev cX7_init : ByteArray := prog_9_method_1_code
def yX7_init : MethodName := ⟨RX7, "<init>", "()V"⟩
abbrev cX7_begins : ByteArray := prog_9_method_2_code
def yX7_begins : MethodName := ⟨RX7, "begins", "()V"⟩
abbrev cX7_in : ByteArray := prog_9_method_4_code
def yX7_in : MethodName := ⟨RX7, "in", "(III)Z"⟩
abbrev cX7_has : ByteArray := prog_9_method_5_code
def yX7_has : MethodName := ⟨RX7, "has", "(II)Z"⟩
abbrev cX7_bits : ByteArray := prog_9_method_6_code
def yX7_bits : MethodName := ⟨RX7, "bits", "(I)I"⟩
abbrev cX7_copies : ByteArray := prog_9_method_7_code
def yX7_copies : MethodName := ⟨RX7, "copies", "([II[II)V"⟩
abbrev cX7_numberOf : ByteArray := prog_9_method_8_code
def yX7_numberOf : MethodName := ⟨RX7, "numberOf", "([III)I"⟩
abbrev cX7_puts : ByteArray := prog_9_method_9_code
def yX7_puts : MethodName := ⟨RX7, "puts", "([III)I"⟩
abbrev cX7_leaves : ByteArray := prog_9_method_10_code
def yX7_leaves : MethodName := ⟨RX7, "leaves", "([II)V"⟩
abbrev cX7_here : ByteArray := prog_9_method_11_code
def yX7_here : MethodName := ⟨RX7, "here", "()I"⟩
abbrev cX7_number : ByteArray := prog_9_method_12_code
def yX7_number : MethodName := ⟨RX7, "number", "(II)I"⟩
abbrev cX7_readsItem : ByteArray := prog_9_method_13_code
def yX7_readsItem : MethodName := ⟨RX7, "readsItem", "()Z"⟩
abbrev cX7_reading : ByteArray := prog_9_method_14_code
def yX7_reading : MethodName := ⟨RX7, "reading", "()I"⟩
abbrev cX7_write : ByteArray := prog_9_method_15_code
def yX7_write : MethodName := ⟨RX7, "write", "(I)I"⟩
abbrev cX7_wipe : ByteArray := prog_9_method_16_code
def yX7_wipe : MethodName := ⟨RX7, "wipe", "()I"⟩
abbrev cX7_fault : ByteArray := prog_9_method_17_code
def yX7_fault : MethodName := ⟨RX7, "fault", "()I"⟩
abbrev cX7_lay : ByteArray := prog_9_method_18_code
def yX7_lay : MethodName := ⟨RX7, "lay", "()I"⟩
abbrev cX7_isNote : ByteArray := prog_9_method_19_code
def yX7_isNote : MethodName := ⟨RX7, "isNote", "(I)Z"⟩
abbrev cX7_note : ByteArray := prog_9_method_20_code
def yX7_note : MethodName := ⟨RX7, "note", "(II)I"⟩
abbrev cX7_notes : ByteArray := prog_9_method_21_code
def yX7_notes : MethodName := ⟨RX7, "notes", "()V"⟩
abbrev cX7_isThere : ByteArray := prog_9_method_22_code
def yX7_isThere : MethodName := ⟨RX7, "isThere", "(II)Z"⟩
abbrev cX7_put : ByteArray := prog_9_method_23_code
def yX7_put : MethodName := ⟨RX7, "put", "(II)I"⟩
abbrev cX7_take : ByteArray := prog_9_method_24_code
def yX7_take : MethodName := ⟨RX7, "take", "(I)I"⟩
abbrev cX7_isShift : ByteArray := prog_9_method_25_code
def yX7_isShift : MethodName := ⟨RX7, "isShift", "(II)Z"⟩
abbrev cX7_shift : ByteArray := prog_9_method_26_code
def yX7_shift : MethodName := ⟨RX7, "shift", "(III)I"⟩
abbrev cX7_shiftAll : ByteArray := prog_9_method_27_code
def yX7_shiftAll : MethodName := ⟨RX7, "shiftAll", "(II)I"⟩
abbrev cX7_mode : ByteArray := prog_9_method_28_code
def yX7_mode : MethodName := ⟨RX7, "mode", "(I)I"⟩
abbrev cX7_undo : ByteArray := prog_9_method_29_code
def yX7_undo : MethodName := ⟨RX7, "undo", "()I"⟩
abbrev cX7_standsAt : ByteArray := prog_9_method_30_code
def yX7_standsAt : MethodName := ⟨RX7, "standsAt", "(II)I"⟩
abbrev cX7_metBy : ByteArray := prog_9_method_31_code
def yX7_metBy : MethodName := ⟨RX7, "metBy", "([IIII)I"⟩
abbrev cX7_firstPitch : ByteArray := prog_9_method_32_code
def yX7_firstPitch : MethodName := ⟨RX7, "firstPitch", "()I"⟩
abbrev cX7_lays : ByteArray := prog_9_method_33_code
def yX7_lays : MethodName := ⟨RX7, "lays", "([II)V"⟩
abbrev cX7_looksAt : ByteArray := prog_9_method_34_code
def yX7_looksAt : MethodName := ⟨RX7, "looksAt", "([II)V"⟩
abbrev cX7_gainOf : ByteArray := prog_9_method_35_code
def yX7_gainOf : MethodName := ⟨RX7, "gainOf", "(I)I"⟩
abbrev cX7_isNew : ByteArray := prog_9_method_36_code
def yX7_isNew : MethodName := ⟨RX7, "isNew", "(I)Z"⟩
abbrev cX7_findsShapes : ByteArray := prog_9_method_37_code
def yX7_findsShapes : MethodName := ⟨RX7, "findsShapes", "([II)V"⟩
abbrev cX7_findsBest : ByteArray := prog_9_method_38_code
def yX7_findsBest : MethodName := ⟨RX7, "findsBest", "([II)V"⟩
abbrev cX7_allOf : ByteArray := prog_9_method_39_code
def yX7_allOf : MethodName := ⟨RX7, "allOf", "([I)I"⟩
abbrev cX7_largest : ByteArray := prog_9_method_40_code
def yX7_largest : MethodName := ⟨RX7, "largest", "(II)I"⟩
abbrev cX7_meets : ByteArray := prog_9_method_41_code
def yX7_meets : MethodName := ⟨RX7, "meets", "(III)I"⟩
abbrev cX7_shape : ByteArray := prog_9_method_42_code
def yX7_shape : MethodName := ⟨RX7, "shape", "(II)I"⟩
abbrev cX7_place : ByteArray := prog_9_method_43_code
def yX7_place : MethodName := ⟨RX7, "place", "(II)I"⟩
abbrev cX7_best : ByteArray := prog_9_method_44_code
def yX7_best : MethodName := ⟨RX7, "best", "(I)I"⟩
abbrev cX7_isParted : ByteArray := prog_9_method_45_code
def yX7_isParted : MethodName := ⟨RX7, "isParted", "([I)V"⟩
abbrev cX7_parted : ByteArray := prog_9_method_46_code
def yX7_parted : MethodName := ⟨RX7, "parted", "(II)I"⟩
abbrev cX7_parting : ByteArray := prog_9_method_47_code
def yX7_parting : MethodName := ⟨RX7, "parting", "(I)I"⟩
abbrev cX7_fewest : ByteArray := prog_9_method_48_code
def yX7_fewest : MethodName := ⟨RX7, "fewest", "(I)I"⟩
abbrev cX7_shapes : ByteArray := prog_9_method_49_code
def yX7_shapes : MethodName := ⟨RX7, "shapes", "(I)I"⟩
abbrev cX7_link : ByteArray := prog_9_method_50_code
def yX7_link : MethodName := ⟨RX7, "link", "(III)I"⟩
abbrev cX7_better : ByteArray := prog_9_method_51_code
def yX7_better : MethodName := ⟨RX7, "better", "(I)I"⟩
abbrev cX7_happens : ByteArray := prog_9_method_52_code
def yX7_happens : MethodName := ⟨RX7, "happens", "(I)V"⟩
abbrev cX7_day : ByteArray := prog_9_method_53_code
def yX7_day : MethodName := ⟨RX7, "day", "(III)I"⟩
abbrev cX7_keep : ByteArray := prog_9_method_54_code
def yX7_keep : MethodName := ⟨RX7, "keep", "()I"⟩
abbrev cX7_back : ByteArray := prog_9_method_55_code
def yX7_back : MethodName := ⟨RX7, "back", "()I"⟩
abbrev cX7_count : ByteArray := prog_9_method_56_code
def yX7_count : MethodName := ⟨RX7, "count", "(I)I"⟩
def RJ6 : String := "java/lang/Integer"
def TJ6 : u_T := fun k => match k with
  | _ => ("", "", "", false)
def tyJ6 : Nat → FieldType := fun k => match k with
  | _ => .int
abbrev wsJ60 : List Cond := u_ws RJ6 TJ6 0
theorem nmJ6 : ∀ a, a < 0 → ∀ b, b < 0 → a ≠ b → (TJ6 a).2.1 ≠ (TJ6 b).2.1 := by decide +kernel
theorem tyJ6_ok : ∀ k, k < 0 → parseFieldDescriptor (TJ6 k).2.2.1 = some (tyJ6 k) := by decide +kernel
abbrev cJ6_bitCount_0f7a4 : ByteArray := prog_10_method_49_code
def yJ6_bitCount_0f7a4 : MethodName := ⟨RJ6, "bitCount", "(I)I"⟩
def RJ9 : String := "java/lang/Math"
def TJ9 : u_T := fun k => match k with
  | _ => ("", "", "", false)
def tyJ9 : Nat → FieldType := fun k => match k with
  | _ => .int
abbrev wsJ90 : List Cond := u_ws RJ9 TJ9 0
theorem nmJ9 : ∀ a, a < 0 → ∀ b, b < 0 → a ≠ b → (TJ9 a).2.1 ≠ (TJ9 b).2.1 := by decide +kernel
theorem tyJ9_ok : ∀ k, k < 0 → parseFieldDescriptor (TJ9 k).2.2.1 = some (tyJ9 k) := by decide +kernel
abbrev cJ9_floorMod_7cf53 : ByteArray := prog_11_method_50_code
def yJ9_floorMod_7cf53 : MethodName := ⟨RJ9, "floorMod", "(II)I"⟩
abbrev cJ9_max_7cf53 : ByteArray := prog_11_method_65_code
def yJ9_max_7cf53 : MethodName := ⟨RJ9, "max", "(II)I"⟩
def RJ10 : String := "java/lang/System"
def TJ10 : u_T := fun k => match k with
  | _ => ("", "", "", false)
def tyJ10 : Nat → FieldType := fun k => match k with
  | _ => .int
abbrev wsJ100 : List Cond := u_ws RJ10 TJ10 0
theorem nmJ10 : ∀ a, a < 0 → ∀ b, b < 0 → a ≠ b → (TJ10 a).2.1 ≠ (TJ10 b).2.1 := by decide +kernel
theorem tyJ10_ok : ∀ k, k < 0 → parseFieldDescriptor (TJ10 k).2.2.1 = some (tyJ10 k) := by decide +kernel
def RJ7 : String := "java/util/Arrays"
def TJ7 : u_T := fun k => match k with
  | _ => ("", "", "", false)
def tyJ7 : Nat → FieldType := fun k => match k with
  | _ => .int
abbrev wsJ70 : List Cond := u_ws RJ7 TJ7 0
theorem nmJ7 : ∀ a, a < 0 → ∀ b, b < 0 → a ≠ b → (TJ7 a).2.1 ≠ (TJ7 b).2.1 := by decide +kernel
theorem tyJ7_ok : ∀ k, k < 0 → parseFieldDescriptor (TJ7 k).2.2.1 = some (tyJ7 k) := by decide +kernel
abbrev cJ7_fill_53178 : ByteArray := prog_13_method_103_code
def yJ7_fill_53178 : MethodName := ⟨RJ7, "fill", "([II)V"⟩
def RL : String := "ShiftedShapesLaw"
abbrev cL_law : ByteArray := code
def yL_law : MethodName := ⟨RL, "law", "([I)Z"⟩
abbrev vwCl : List vw_C := [(RX0, TX0, 2), (RX1, TX1, 6), (RX2, TX2, 3), (RX3, TX3, 2), (RX4, TX4, 3), (RX5, TX5, 12), (RX6, TX6, 13), (RX7, TX7, 27)]
end
section
theorem dJ6_bitCount_0f7a4_0 : decode cJ6_bitCount_0f7a4 0 = .ok (.iload_n 0, 1) := by decide +kernel
theorem dJ6_bitCount_0f7a4_1 : decode cJ6_bitCount_0f7a4 1 = .ok (.iload_n 0, 1) := by decide +kernel
theorem dJ6_bitCount_0f7a4_2 : decode cJ6_bitCount_0f7a4 2 = .ok (.iconst 1, 1) := by decide +kernel
theorem dJ6_bitCount_0f7a4_3 : decode cJ6_bitCount_0f7a4 3 = .ok (.iushr, 1) := by decide +kernel
theorem dJ6_bitCount_0f7a4_4 : decode cJ6_bitCount_0f7a4 4 = .ok (.ldc_w 265, 3) := by decide +kernel
theorem dJ6_bitCount_0f7a4_7 : decode cJ6_bitCount_0f7a4 7 = .ok (.iand, 1) := by decide +kernel
theorem dJ6_bitCount_0f7a4_8 : decode cJ6_bitCount_0f7a4 8 = .ok (.isub, 1) := by decide +kernel
theorem dJ6_bitCount_0f7a4_9 : decode cJ6_bitCount_0f7a4 9 = .ok (.istore_n 0, 1) := by decide +kernel
theorem dJ6_bitCount_0f7a4_10 : decode cJ6_bitCount_0f7a4 10 = .ok (.iload_n 0, 1) := by decide +kernel
theorem dJ6_bitCount_0f7a4_11 : decode cJ6_bitCount_0f7a4 11 = .ok (.ldc_w 266, 3) := by decide +kernel
theorem dJ6_bitCount_0f7a4_14 : decode cJ6_bitCount_0f7a4 14 = .ok (.iand, 1) := by decide +kernel
theorem dJ6_bitCount_0f7a4_15 : decode cJ6_bitCount_0f7a4 15 = .ok (.iload_n 0, 1) := by decide +kernel
theorem dJ6_bitCount_0f7a4_16 : decode cJ6_bitCount_0f7a4 16 = .ok (.iconst 2, 1) := by decide +kernel
theorem dJ6_bitCount_0f7a4_17 : decode cJ6_bitCount_0f7a4 17 = .ok (.iushr, 1) := by decide +kernel
theorem dJ6_bitCount_0f7a4_18 : decode cJ6_bitCount_0f7a4 18 = .ok (.ldc_w 266, 3) := by decide +kernel
theorem dJ6_bitCount_0f7a4_21 : decode cJ6_bitCount_0f7a4 21 = .ok (.iand, 1) := by decide +kernel
theorem dJ6_bitCount_0f7a4_22 : decode cJ6_bitCount_0f7a4 22 = .ok (.iadd, 1) := by decide +kernel
theorem dJ6_bitCount_0f7a4_23 : decode cJ6_bitCount_0f7a4 23 = .ok (.istore_n 0, 1) := by decide +kernel
theorem dJ6_bitCount_0f7a4_24 : decode cJ6_bitCount_0f7a4 24 = .ok (.iload_n 0, 1) := by decide +kernel
theorem dJ6_bitCount_0f7a4_25 : decode cJ6_bitCount_0f7a4 25 = .ok (.iload_n 0, 1) := by decide +kernel
theorem dJ6_bitCount_0f7a4_26 : decode cJ6_bitCount_0f7a4 26 = .ok (.iconst 4, 1) := by decide +kernel
theorem dJ6_bitCount_0f7a4_27 : decode cJ6_bitCount_0f7a4 27 = .ok (.iushr, 1) := by decide +kernel
theorem dJ6_bitCount_0f7a4_28 : decode cJ6_bitCount_0f7a4 28 = .ok (.iadd, 1) := by decide +kernel
theorem dJ6_bitCount_0f7a4_29 : decode cJ6_bitCount_0f7a4 29 = .ok (.ldc_w 267, 3) := by decide +kernel
theorem dJ6_bitCount_0f7a4_32 : decode cJ6_bitCount_0f7a4 32 = .ok (.iand, 1) := by decide +kernel
theorem dJ6_bitCount_0f7a4_33 : decode cJ6_bitCount_0f7a4 33 = .ok (.istore_n 0, 1) := by decide +kernel
theorem dJ6_bitCount_0f7a4_34 : decode cJ6_bitCount_0f7a4 34 = .ok (.iload_n 0, 1) := by decide +kernel
theorem dJ6_bitCount_0f7a4_35 : decode cJ6_bitCount_0f7a4 35 = .ok (.iload_n 0, 1) := by decide +kernel
theorem dJ6_bitCount_0f7a4_36 : decode cJ6_bitCount_0f7a4 36 = .ok (.bipush 8, 2) := by decide +kernel
theorem dJ6_bitCount_0f7a4_38 : decode cJ6_bitCount_0f7a4 38 = .ok (.iushr, 1) := by decide +kernel
theorem dJ6_bitCount_0f7a4_39 : decode cJ6_bitCount_0f7a4 39 = .ok (.iadd, 1) := by decide +kernel
theorem dJ6_bitCount_0f7a4_40 : decode cJ6_bitCount_0f7a4 40 = .ok (.istore_n 0, 1) := by decide +kernel
theorem dJ6_bitCount_0f7a4_41 : decode cJ6_bitCount_0f7a4 41 = .ok (.iload_n 0, 1) := by decide +kernel
theorem dJ6_bitCount_0f7a4_42 : decode cJ6_bitCount_0f7a4 42 = .ok (.iload_n 0, 1) := by decide +kernel
theorem dJ6_bitCount_0f7a4_43 : decode cJ6_bitCount_0f7a4 43 = .ok (.bipush 16, 2) := by decide +kernel
theorem dJ6_bitCount_0f7a4_45 : decode cJ6_bitCount_0f7a4 45 = .ok (.iushr, 1) := by decide +kernel
theorem dJ6_bitCount_0f7a4_46 : decode cJ6_bitCount_0f7a4 46 = .ok (.iadd, 1) := by decide +kernel
theorem dJ6_bitCount_0f7a4_47 : decode cJ6_bitCount_0f7a4 47 = .ok (.istore_n 0, 1) := by decide +kernel
theorem dJ6_bitCount_0f7a4_48 : decode cJ6_bitCount_0f7a4 48 = .ok (.iload_n 0, 1) := by decide +kernel
theorem dJ6_bitCount_0f7a4_49 : decode cJ6_bitCount_0f7a4 49 = .ok (.bipush 63, 2) := by decide +kernel
theorem dJ6_bitCount_0f7a4_51 : decode cJ6_bitCount_0f7a4 51 = .ok (.iand, 1) := by decide +kernel
theorem dJ6_bitCount_0f7a4_52 : decode cJ6_bitCount_0f7a4 52 = .ok (.ireturn, 1) := by decide +kernel
theorem dJ9_floorMod_7cf53_0 : decode cJ9_floorMod_7cf53 0 = .ok (.iload_n 0, 1) := by decide +kernel
theorem dJ9_floorMod_7cf53_1 : decode cJ9_floorMod_7cf53 1 = .ok (.iload_n 1, 1) := by decide +kernel
theorem dJ9_floorMod_7cf53_2 : decode cJ9_floorMod_7cf53 2 = .ok (.irem, 1) := by decide +kernel
theorem dJ9_floorMod_7cf53_3 : decode cJ9_floorMod_7cf53 3 = .ok (.istore_n 2, 1) := by decide +kernel
theorem dJ9_floorMod_7cf53_4 : decode cJ9_floorMod_7cf53 4 = .ok (.iload_n 0, 1) := by decide +kernel
theorem dJ9_floorMod_7cf53_5 : decode cJ9_floorMod_7cf53 5 = .ok (.iload_n 1, 1) := by decide +kernel
theorem dJ9_floorMod_7cf53_6 : decode cJ9_floorMod_7cf53 6 = .ok (.ixor, 1) := by decide +kernel
theorem dJ9_floorMod_7cf53_7 : decode cJ9_floorMod_7cf53 7 = .ok (.ifCond .ge 11, 3) := by decide +kernel
theorem dJ9_floorMod_7cf53_10 : decode cJ9_floorMod_7cf53 10 = .ok (.iload_n 2, 1) := by decide +kernel
theorem dJ9_floorMod_7cf53_11 : decode cJ9_floorMod_7cf53 11 = .ok (.ifCond .eq 7, 3) := by decide +kernel
theorem dJ9_floorMod_7cf53_14 : decode cJ9_floorMod_7cf53 14 = .ok (.iload_n 2, 1) := by decide +kernel
theorem dJ9_floorMod_7cf53_15 : decode cJ9_floorMod_7cf53 15 = .ok (.iload_n 1, 1) := by decide +kernel
theorem dJ9_floorMod_7cf53_16 : decode cJ9_floorMod_7cf53 16 = .ok (.iadd, 1) := by decide +kernel
theorem dJ9_floorMod_7cf53_17 : decode cJ9_floorMod_7cf53 17 = .ok (.ireturn, 1) := by decide +kernel
theorem dJ9_floorMod_7cf53_18 : decode cJ9_floorMod_7cf53 18 = .ok (.iload_n 2, 1) := by decide +kernel
theorem dJ9_floorMod_7cf53_19 : decode cJ9_floorMod_7cf53 19 = .ok (.ireturn, 1) := by decide +kernel
theorem dJ9_max_7cf53_0 : decode cJ9_max_7cf53 0 = .ok (.iload_n 0, 1) := by decide +kernel
theorem dJ9_max_7cf53_1 : decode cJ9_max_7cf53 1 = .ok (.iload_n 1, 1) := by decide +kernel
theorem dJ9_max_7cf53_2 : decode cJ9_max_7cf53 2 = .ok (.if_icmp .lt 7, 3) := by decide +kernel
theorem dJ9_max_7cf53_5 : decode cJ9_max_7cf53 5 = .ok (.iload_n 0, 1) := by decide +kernel
theorem dJ9_max_7cf53_6 : decode cJ9_max_7cf53 6 = .ok (.goto 4, 3) := by decide +kernel
theorem dJ9_max_7cf53_9 : decode cJ9_max_7cf53 9 = .ok (.iload_n 1, 1) := by decide +kernel
theorem dJ9_max_7cf53_10 : decode cJ9_max_7cf53 10 = .ok (.ireturn, 1) := by decide +kernel
theorem dJ7_fill_53178_0 : decode cJ7_fill_53178 0 = .ok (.iconst 0, 1) := by decide +kernel
theorem dJ7_fill_53178_1 : decode cJ7_fill_53178 1 = .ok (.istore_n 2, 1) := by decide +kernel
theorem dJ7_fill_53178_2 : decode cJ7_fill_53178 2 = .ok (.aload_n 0, 1) := by decide +kernel
theorem dJ7_fill_53178_3 : decode cJ7_fill_53178 3 = .ok (.arraylength, 1) := by decide +kernel
theorem dJ7_fill_53178_4 : decode cJ7_fill_53178 4 = .ok (.istore_n 3, 1) := by decide +kernel
theorem dJ7_fill_53178_5 : decode cJ7_fill_53178 5 = .ok (.iload_n 2, 1) := by decide +kernel
theorem dJ7_fill_53178_6 : decode cJ7_fill_53178 6 = .ok (.iload_n 3, 1) := by decide +kernel
theorem dJ7_fill_53178_7 : decode cJ7_fill_53178 7 = .ok (.if_icmp .ge 13, 3) := by decide +kernel
theorem dJ7_fill_53178_10 : decode cJ7_fill_53178 10 = .ok (.aload_n 0, 1) := by decide +kernel
theorem dJ7_fill_53178_11 : decode cJ7_fill_53178 11 = .ok (.iload_n 2, 1) := by decide +kernel
theorem dJ7_fill_53178_12 : decode cJ7_fill_53178 12 = .ok (.iload_n 1, 1) := by decide +kernel
theorem dJ7_fill_53178_13 : decode cJ7_fill_53178 13 = .ok (.iastore, 1) := by decide +kernel
theorem dJ7_fill_53178_14 : decode cJ7_fill_53178 14 = .ok (.iinc 2 1, 3) := by decide +kernel
theorem dJ7_fill_53178_17 : decode cJ7_fill_53178 17 = .ok (.goto (-12), 3) := by decide +kernel
theorem dJ7_fill_53178_20 : decode cJ7_fill_53178 20 = .ok (.return_, 1) := by decide +kernel
theorem dX0_init_0 : decode cX0_init 0 = .ok (.aload_n 0, 1) := by decide +kernel
theorem dX0_init_1 : decode cX0_init 1 = .ok (.invokespecial 3, 3) := by decide +kernel
theorem dX0_init_4 : decode cX0_init 4 = .ok (.aload_n 0, 1) := by decide +kernel
theorem dX0_init_5 : decode cX0_init 5 = .ok (.sipush 448, 3) := by decide +kernel
theorem dX0_init_8 : decode cX0_init 8 = .ok (.newarray .int, 2) := by decide +kernel
theorem dX0_init_10 : decode cX0_init 10 = .ok (.putfield 9, 3) := by decide +kernel
theorem dX0_init_13 : decode cX0_init 13 = .ok (.return_, 1) := by decide +kernel
theorem dX0_fewestOf_0 : decode cX0_fewestOf 0 = .ok (.aload_n 0, 1) := by decide +kernel
theorem dX0_fewestOf_1 : decode cX0_fewestOf 1 = .ok (.aload_n 1, 1) := by decide +kernel
theorem dX0_fewestOf_2 : decode cX0_fewestOf 2 = .ok (.invokevirtual 15, 3) := by decide +kernel
theorem dX0_fewestOf_5 : decode cX0_fewestOf 5 = .ok (.aload_n 1, 1) := by decide +kernel
theorem dX0_fewestOf_6 : decode cX0_fewestOf 6 = .ok (.invokevirtual 19, 3) := by decide +kernel
theorem dX0_fewestOf_9 : decode cX0_fewestOf 9 = .ok (.istore_n 2, 1) := by decide +kernel
theorem dX0_fewestOf_10 : decode cX0_fewestOf 10 = .ok (.iconst 0, 1) := by decide +kernel
theorem dX0_fewestOf_11 : decode cX0_fewestOf 11 = .ok (.istore_n 3, 1) := by decide +kernel
theorem dX0_fewestOf_12 : decode cX0_fewestOf 12 = .ok (.iload_n 3, 1) := by decide +kernel
theorem dX0_fewestOf_13 : decode cX0_fewestOf 13 = .ok (.bipush 14, 2) := by decide +kernel
theorem dX0_fewestOf_15 : decode cX0_fewestOf 15 = .ok (.if_icmp .ge 27, 3) := by decide +kernel
theorem dX0_fewestOf_18 : decode cX0_fewestOf 18 = .ok (.aload_n 0, 1) := by decide +kernel
theorem dX0_fewestOf_19 : decode cX0_fewestOf 19 = .ok (.getfield 9, 3) := by decide +kernel
theorem dX0_fewestOf_22 : decode cX0_fewestOf 22 = .ok (.aload_n 0, 1) := by decide +kernel
theorem dX0_fewestOf_23 : decode cX0_fewestOf 23 = .ok (.getfield 25, 3) := by decide +kernel
theorem dX0_fewestOf_26 : decode cX0_fewestOf 26 = .ok (.iload_n 2, 1) := by decide +kernel
theorem dX0_fewestOf_27 : decode cX0_fewestOf 27 = .ok (.iload_n 3, 1) := by decide +kernel
theorem dX0_fewestOf_28 : decode cX0_fewestOf 28 = .ok (.invokestatic 29, 3) := by decide +kernel
theorem dX0_fewestOf_31 : decode cX0_fewestOf 31 = .ok (.ifCond .eq 5, 3) := by decide +kernel
theorem dX0_fewestOf_34 : decode cX0_fewestOf 34 = .ok (.iload_n 3, 1) := by decide +kernel
theorem dX0_fewestOf_35 : decode cX0_fewestOf 35 = .ok (.ireturn, 1) := by decide +kernel
theorem dX0_fewestOf_36 : decode cX0_fewestOf 36 = .ok (.iinc 3 1, 3) := by decide +kernel
theorem dX0_fewestOf_39 : decode cX0_fewestOf 39 = .ok (.goto (-27), 3) := by decide +kernel
theorem dX0_fewestOf_42 : decode cX0_fewestOf 42 = .ok (.bipush 14, 2) := by decide +kernel
theorem dX0_fewestOf_44 : decode cX0_fewestOf 44 = .ok (.ireturn, 1) := by decide +kernel
theorem dX0_gather_0 : decode cX0_gather 0 = .ok (.aload_n 0, 1) := by decide +kernel
theorem dX0_gather_1 : decode cX0_gather 1 = .ok (.iconst 0, 1) := by decide +kernel
theorem dX0_gather_2 : decode cX0_gather 2 = .ok (.putfield 25, 3) := by decide +kernel
theorem dX0_gather_5 : decode cX0_gather 5 = .ok (.iconst 0, 1) := by decide +kernel
theorem dX0_gather_6 : decode cX0_gather 6 = .ok (.istore_n 2, 1) := by decide +kernel
theorem dX0_gather_7 : decode cX0_gather 7 = .ok (.iload_n 2, 1) := by decide +kernel
theorem dX0_gather_8 : decode cX0_gather 8 = .ok (.aload_n 1, 1) := by decide +kernel
theorem dX0_gather_9 : decode cX0_gather 9 = .ok (.getfield 33, 3) := by decide +kernel
theorem dX0_gather_12 : decode cX0_gather 12 = .ok (.if_icmp .ge 42, 3) := by decide +kernel
theorem dX0_gather_15 : decode cX0_gather 15 = .ok (.aload_n 1, 1) := by decide +kernel
theorem dX0_gather_16 : decode cX0_gather 16 = .ok (.iload_n 2, 1) := by decide +kernel
theorem dX0_gather_17 : decode cX0_gather 17 = .ok (.invokestatic 36, 3) := by decide +kernel
theorem dX0_gather_20 : decode cX0_gather 20 = .ok (.ifCond .ne 28, 3) := by decide +kernel
theorem dX0_gather_23 : decode cX0_gather 23 = .ok (.aload_n 0, 1) := by decide +kernel
theorem dX0_gather_24 : decode cX0_gather 24 = .ok (.getfield 9, 3) := by decide +kernel
theorem dX0_gather_27 : decode cX0_gather 27 = .ok (.aload_n 0, 1) := by decide +kernel
theorem dX0_gather_28 : decode cX0_gather 28 = .ok (.getfield 25, 3) := by decide +kernel
theorem dX0_gather_31 : decode cX0_gather 31 = .ok (.aload_n 1, 1) := by decide +kernel
theorem dX0_gather_32 : decode cX0_gather 32 = .ok (.getfield 40, 3) := by decide +kernel
theorem dX0_gather_35 : decode cX0_gather 35 = .ok (.iload_n 2, 1) := by decide +kernel
theorem dX0_gather_36 : decode cX0_gather 36 = .ok (.iaload, 1) := by decide +kernel
theorem dX0_gather_37 : decode cX0_gather 37 = .ok (.iastore, 1) := by decide +kernel
theorem dX0_gather_38 : decode cX0_gather 38 = .ok (.aload_n 0, 1) := by decide +kernel
theorem dX0_gather_39 : decode cX0_gather 39 = .ok (.dup, 1) := by decide +kernel
theorem dX0_gather_40 : decode cX0_gather 40 = .ok (.getfield 25, 3) := by decide +kernel
theorem dX0_gather_43 : decode cX0_gather 43 = .ok (.iconst 1, 1) := by decide +kernel
theorem dX0_gather_44 : decode cX0_gather 44 = .ok (.iadd, 1) := by decide +kernel
theorem dX0_gather_45 : decode cX0_gather 45 = .ok (.putfield 25, 3) := by decide +kernel
theorem dX0_gather_48 : decode cX0_gather 48 = .ok (.iinc 2 1, 3) := by decide +kernel
theorem dX0_gather_51 : decode cX0_gather 51 = .ok (.goto (-44), 3) := by decide +kernel
theorem dX0_gather_54 : decode cX0_gather 54 = .ok (.return_, 1) := by decide +kernel
theorem dX0_isWithinAnother_0 : decode cX0_isWithinAnother 0 = .ok (.aload_n 0, 1) := by decide +kernel
theorem dX0_isWithinAnother_1 : decode cX0_isWithinAnother 1 = .ok (.getfield 40, 3) := by decide +kernel
theorem dX0_isWithinAnother_4 : decode cX0_isWithinAnother 4 = .ok (.iload_n 1, 1) := by decide +kernel
theorem dX0_isWithinAnother_5 : decode cX0_isWithinAnother 5 = .ok (.iaload, 1) := by decide +kernel
theorem dX0_isWithinAnother_6 : decode cX0_isWithinAnother 6 = .ok (.istore_n 2, 1) := by decide +kernel
theorem dX0_isWithinAnother_7 : decode cX0_isWithinAnother 7 = .ok (.iconst 0, 1) := by decide +kernel
theorem dX0_isWithinAnother_8 : decode cX0_isWithinAnother 8 = .ok (.istore_n 3, 1) := by decide +kernel
theorem dX0_isWithinAnother_9 : decode cX0_isWithinAnother 9 = .ok (.iload_n 3, 1) := by decide +kernel
theorem dX0_isWithinAnother_10 : decode cX0_isWithinAnother 10 = .ok (.aload_n 0, 1) := by decide +kernel
theorem dX0_isWithinAnother_11 : decode cX0_isWithinAnother 11 = .ok (.getfield 33, 3) := by decide +kernel
theorem dX0_isWithinAnother_14 : decode cX0_isWithinAnother 14 = .ok (.if_icmp .ge 51, 3) := by decide +kernel
theorem dX0_isWithinAnother_17 : decode cX0_isWithinAnother 17 = .ok (.aload_n 0, 1) := by decide +kernel
theorem dX0_isWithinAnother_18 : decode cX0_isWithinAnother 18 = .ok (.getfield 40, 3) := by decide +kernel
theorem dX0_isWithinAnother_21 : decode cX0_isWithinAnother 21 = .ok (.iload_n 3, 1) := by decide +kernel
theorem dX0_isWithinAnother_22 : decode cX0_isWithinAnother 22 = .ok (.iaload, 1) := by decide +kernel
theorem dX0_isWithinAnother_23 : decode cX0_isWithinAnother 23 = .ok (.istore 4, 2) := by decide +kernel
theorem dX0_isWithinAnother_25 : decode cX0_isWithinAnother 25 = .ok (.iload_n 2, 1) := by decide +kernel
theorem dX0_isWithinAnother_26 : decode cX0_isWithinAnother 26 = .ok (.iload 4, 2) := by decide +kernel
theorem dX0_isWithinAnother_28 : decode cX0_isWithinAnother 28 = .ok (.iconst (-1), 1) := by decide +kernel
theorem dX0_isWithinAnother_29 : decode cX0_isWithinAnother 29 = .ok (.ixor, 1) := by decide +kernel
theorem dX0_isWithinAnother_30 : decode cX0_isWithinAnother 30 = .ok (.iand, 1) := by decide +kernel
theorem dX0_isWithinAnother_31 : decode cX0_isWithinAnother 31 = .ok (.ifCond .ne 7, 3) := by decide +kernel
theorem dX0_isWithinAnother_34 : decode cX0_isWithinAnother 34 = .ok (.iconst 1, 1) := by decide +kernel
theorem dX0_isWithinAnother_35 : decode cX0_isWithinAnother 35 = .ok (.goto 4, 3) := by decide +kernel
theorem dX0_isWithinAnother_38 : decode cX0_isWithinAnother 38 = .ok (.iconst 0, 1) := by decide +kernel
theorem dX0_isWithinAnother_39 : decode cX0_isWithinAnother 39 = .ok (.istore 5, 2) := by decide +kernel
theorem dX0_isWithinAnother_41 : decode cX0_isWithinAnother 41 = .ok (.iload 5, 2) := by decide +kernel
theorem dX0_isWithinAnother_43 : decode cX0_isWithinAnother 43 = .ok (.ifCond .eq 16, 3) := by decide +kernel
theorem dX0_isWithinAnother_46 : decode cX0_isWithinAnother 46 = .ok (.iload 4, 2) := by decide +kernel
theorem dX0_isWithinAnother_48 : decode cX0_isWithinAnother 48 = .ok (.iload_n 2, 1) := by decide +kernel
theorem dX0_isWithinAnother_49 : decode cX0_isWithinAnother 49 = .ok (.if_icmp .ne 8, 3) := by decide +kernel
theorem dX0_isWithinAnother_52 : decode cX0_isWithinAnother 52 = .ok (.iload_n 3, 1) := by decide +kernel
theorem dX0_isWithinAnother_53 : decode cX0_isWithinAnother 53 = .ok (.iload_n 1, 1) := by decide +kernel
theorem dX0_isWithinAnother_54 : decode cX0_isWithinAnother 54 = .ok (.if_icmp .ge 5, 3) := by decide +kernel
theorem dX0_isWithinAnother_57 : decode cX0_isWithinAnother 57 = .ok (.iconst 1, 1) := by decide +kernel
theorem dX0_isWithinAnother_58 : decode cX0_isWithinAnother 58 = .ok (.ireturn, 1) := by decide +kernel
theorem dX0_isWithinAnother_59 : decode cX0_isWithinAnother 59 = .ok (.iinc 3 1, 3) := by decide +kernel
theorem dX0_isWithinAnother_62 : decode cX0_isWithinAnother 62 = .ok (.goto (-53), 3) := by decide +kernel
theorem dX0_isWithinAnother_65 : decode cX0_isWithinAnother 65 = .ok (.iconst 0, 1) := by decide +kernel
theorem dX0_isWithinAnother_66 : decode cX0_isWithinAnother 66 = .ok (.ireturn, 1) := by decide +kernel
theorem dX0_isReached_0 : decode cX0_isReached 0 = .ok (.iload_n 2, 1) := by decide +kernel
theorem dX0_isReached_1 : decode cX0_isReached 1 = .ok (.ifCond .ne 5, 3) := by decide +kernel
theorem dX0_isReached_4 : decode cX0_isReached 4 = .ok (.iconst 1, 1) := by decide +kernel
theorem dX0_isReached_5 : decode cX0_isReached 5 = .ok (.ireturn, 1) := by decide +kernel
theorem dX0_isReached_6 : decode cX0_isReached 6 = .ok (.iload_n 3, 1) := by decide +kernel
theorem dX0_isReached_7 : decode cX0_isReached 7 = .ok (.ifCond .gt 5, 3) := by decide +kernel
theorem dX0_isReached_10 : decode cX0_isReached 10 = .ok (.iconst 0, 1) := by decide +kernel
theorem dX0_isReached_11 : decode cX0_isReached 11 = .ok (.ireturn, 1) := by decide +kernel
theorem dX0_isReached_12 : decode cX0_isReached 12 = .ok (.iload_n 2, 1) := by decide +kernel
theorem dX0_isReached_13 : decode cX0_isReached 13 = .ok (.iload_n 2, 1) := by decide +kernel
theorem dX0_isReached_14 : decode cX0_isReached 14 = .ok (.ineg, 1) := by decide +kernel
theorem dX0_isReached_15 : decode cX0_isReached 15 = .ok (.iand, 1) := by decide +kernel
theorem dX0_isReached_16 : decode cX0_isReached 16 = .ok (.istore 4, 2) := by decide +kernel
theorem dX0_isReached_18 : decode cX0_isReached 18 = .ok (.iconst 0, 1) := by decide +kernel
theorem dX0_isReached_19 : decode cX0_isReached 19 = .ok (.istore 5, 2) := by decide +kernel
theorem dX0_isReached_21 : decode cX0_isReached 21 = .ok (.iload 5, 2) := by decide +kernel
theorem dX0_isReached_23 : decode cX0_isReached 23 = .ok (.iload_n 1, 1) := by decide +kernel
theorem dX0_isReached_24 : decode cX0_isReached 24 = .ok (.if_icmp .ge 40, 3) := by decide +kernel
theorem dX0_isReached_27 : decode cX0_isReached 27 = .ok (.aload_n 0, 1) := by decide +kernel
theorem dX0_isReached_28 : decode cX0_isReached 28 = .ok (.iload 5, 2) := by decide +kernel
theorem dX0_isReached_30 : decode cX0_isReached 30 = .ok (.iaload, 1) := by decide +kernel
theorem dX0_isReached_31 : decode cX0_isReached 31 = .ok (.iload 4, 2) := by decide +kernel
theorem dX0_isReached_33 : decode cX0_isReached 33 = .ok (.iand, 1) := by decide +kernel
theorem dX0_isReached_34 : decode cX0_isReached 34 = .ok (.ifCond .eq 24, 3) := by decide +kernel
theorem dX0_isReached_37 : decode cX0_isReached 37 = .ok (.aload_n 0, 1) := by decide +kernel
theorem dX0_isReached_38 : decode cX0_isReached 38 = .ok (.iload_n 1, 1) := by decide +kernel
theorem dX0_isReached_39 : decode cX0_isReached 39 = .ok (.iload_n 2, 1) := by decide +kernel
theorem dX0_isReached_40 : decode cX0_isReached 40 = .ok (.aload_n 0, 1) := by decide +kernel
theorem dX0_isReached_41 : decode cX0_isReached 41 = .ok (.iload 5, 2) := by decide +kernel
theorem dX0_isReached_43 : decode cX0_isReached 43 = .ok (.iaload, 1) := by decide +kernel
theorem dX0_isReached_44 : decode cX0_isReached 44 = .ok (.iconst (-1), 1) := by decide +kernel
theorem dX0_isReached_45 : decode cX0_isReached 45 = .ok (.ixor, 1) := by decide +kernel
theorem dX0_isReached_46 : decode cX0_isReached 46 = .ok (.iand, 1) := by decide +kernel
theorem dX0_isReached_47 : decode cX0_isReached 47 = .ok (.iload_n 3, 1) := by decide +kernel
theorem dX0_isReached_48 : decode cX0_isReached 48 = .ok (.iconst 1, 1) := by decide +kernel
theorem dX0_isReached_49 : decode cX0_isReached 49 = .ok (.isub, 1) := by decide +kernel
theorem dX0_isReached_50 : decode cX0_isReached 50 = .ok (.invokestatic 29, 3) := by decide +kernel
theorem dX0_isReached_53 : decode cX0_isReached 53 = .ok (.ifCond .eq 5, 3) := by decide +kernel
theorem dX0_isReached_56 : decode cX0_isReached 56 = .ok (.iconst 1, 1) := by decide +kernel
theorem dX0_isReached_57 : decode cX0_isReached 57 = .ok (.ireturn, 1) := by decide +kernel
theorem dX0_isReached_58 : decode cX0_isReached 58 = .ok (.iinc 5 1, 3) := by decide +kernel
theorem dX0_isReached_61 : decode cX0_isReached 61 = .ok (.goto (-40), 3) := by decide +kernel
theorem dX0_isReached_64 : decode cX0_isReached 64 = .ok (.iconst 0, 1) := by decide +kernel
theorem dX0_isReached_65 : decode cX0_isReached 65 = .ok (.ireturn, 1) := by decide +kernel
theorem dX1_init_0 : decode cX1_init 0 = .ok (.aload_n 0, 1) := by decide +kernel
theorem dX1_init_1 : decode cX1_init 1 = .ok (.invokespecial 3, 3) := by decide +kernel
theorem dX1_init_4 : decode cX1_init 4 = .ok (.aload_n 0, 1) := by decide +kernel
theorem dX1_init_5 : decode cX1_init 5 = .ok (.bipush 14, 2) := by decide +kernel
theorem dX1_init_7 : decode cX1_init 7 = .ok (.newarray .int, 2) := by decide +kernel
theorem dX1_init_9 : decode cX1_init 9 = .ok (.putfield 9, 3) := by decide +kernel
theorem dX1_init_12 : decode cX1_init 12 = .ok (.aload_n 0, 1) := by decide +kernel
theorem dX1_init_13 : decode cX1_init 13 = .ok (.bipush 14, 2) := by decide +kernel
theorem dX1_init_15 : decode cX1_init 15 = .ok (.newarray .int, 2) := by decide +kernel
theorem dX1_init_17 : decode cX1_init 17 = .ok (.putfield 15, 3) := by decide +kernel
theorem dX1_init_20 : decode cX1_init 20 = .ok (.aload_n 0, 1) := by decide +kernel
theorem dX1_init_21 : decode cX1_init 21 = .ok (.bipush 14, 2) := by decide +kernel
theorem dX1_init_23 : decode cX1_init 23 = .ok (.newarray .int, 2) := by decide +kernel
theorem dX1_init_25 : decode cX1_init 25 = .ok (.putfield 18, 3) := by decide +kernel
theorem dX1_init_28 : decode cX1_init 28 = .ok (.return_, 1) := by decide +kernel
theorem dX1_takeApart_0 : decode cX1_takeApart 0 = .ok (.aload_n 0, 1) := by decide +kernel
theorem dX1_takeApart_1 : decode cX1_takeApart 1 = .ok (.iconst 0, 1) := by decide +kernel
theorem dX1_takeApart_2 : decode cX1_takeApart 2 = .ok (.putfield 21, 3) := by decide +kernel
theorem dX1_takeApart_5 : decode cX1_takeApart 5 = .ok (.aload_n 0, 1) := by decide +kernel
theorem dX1_takeApart_6 : decode cX1_takeApart 6 = .ok (.iconst 0, 1) := by decide +kernel
theorem dX1_takeApart_7 : decode cX1_takeApart 7 = .ok (.putfield 25, 3) := by decide +kernel
theorem dX1_takeApart_10 : decode cX1_takeApart 10 = .ok (.aload_n 0, 1) := by decide +kernel
theorem dX1_takeApart_11 : decode cX1_takeApart 11 = .ok (.aload_n 1, 1) := by decide +kernel
theorem dX1_takeApart_12 : decode cX1_takeApart 12 = .ok (.invokevirtual 28, 3) := by decide +kernel
theorem dX1_takeApart_15 : decode cX1_takeApart 15 = .ok (.putfield 34, 3) := by decide +kernel
theorem dX1_takeApart_18 : decode cX1_takeApart 18 = .ok (.iconst 1, 1) := by decide +kernel
theorem dX1_takeApart_19 : decode cX1_takeApart 19 = .ok (.istore_n 3, 1) := by decide +kernel
theorem dX1_takeApart_20 : decode cX1_takeApart 20 = .ok (.iconst 0, 1) := by decide +kernel
theorem dX1_takeApart_21 : decode cX1_takeApart 21 = .ok (.istore 4, 2) := by decide +kernel
theorem dX1_takeApart_23 : decode cX1_takeApart 23 = .ok (.iload 4, 2) := by decide +kernel
theorem dX1_takeApart_25 : decode cX1_takeApart 25 = .ok (.bipush 14, 2) := by decide +kernel
theorem dX1_takeApart_27 : decode cX1_takeApart 27 = .ok (.if_icmp .ge 59, 3) := by decide +kernel
theorem dX1_takeApart_30 : decode cX1_takeApart 30 = .ok (.iload_n 3, 1) := by decide +kernel
theorem dX1_takeApart_31 : decode cX1_takeApart 31 = .ok (.ifCond .eq 55, 3) := by decide +kernel
theorem dX1_takeApart_34 : decode cX1_takeApart 34 = .ok (.aload_n 2, 1) := by decide +kernel
theorem dX1_takeApart_35 : decode cX1_takeApart 35 = .ok (.aload_n 1, 1) := by decide +kernel
theorem dX1_takeApart_36 : decode cX1_takeApart 36 = .ok (.aload_n 0, 1) := by decide +kernel
theorem dX1_takeApart_37 : decode cX1_takeApart 37 = .ok (.getfield 34, 3) := by decide +kernel
theorem dX1_takeApart_40 : decode cX1_takeApart 40 = .ok (.invokevirtual 37, 3) := by decide +kernel
theorem dX1_takeApart_43 : decode cX1_takeApart 43 = .ok (.aload_n 2, 1) := by decide +kernel
theorem dX1_takeApart_44 : decode cX1_takeApart 44 = .ok (.invokevirtual 43, 3) := by decide +kernel
theorem dX1_takeApart_47 : decode cX1_takeApart 47 = .ok (.istore 5, 2) := by decide +kernel
theorem dX1_takeApart_49 : decode cX1_takeApart 49 = .ok (.iload 5, 2) := by decide +kernel
theorem dX1_takeApart_51 : decode cX1_takeApart 51 = .ok (.ifCond .lt 16, 3) := by decide +kernel
theorem dX1_takeApart_54 : decode cX1_takeApart 54 = .ok (.aload_n 2, 1) := by decide +kernel
theorem dX1_takeApart_55 : decode cX1_takeApart 55 = .ok (.iload 5, 2) := by decide +kernel
theorem dX1_takeApart_57 : decode cX1_takeApart 57 = .ok (.invokevirtual 46, 3) := by decide +kernel
theorem dX1_takeApart_60 : decode cX1_takeApart 60 = .ok (.ifCond .le 7, 3) := by decide +kernel
theorem dX1_takeApart_63 : decode cX1_takeApart 63 = .ok (.iconst 1, 1) := by decide +kernel
theorem dX1_takeApart_64 : decode cX1_takeApart 64 = .ok (.goto 4, 3) := by decide +kernel
theorem dX1_takeApart_67 : decode cX1_takeApart 67 = .ok (.iconst 0, 1) := by decide +kernel
theorem dX1_takeApart_68 : decode cX1_takeApart 68 = .ok (.istore_n 3, 1) := by decide +kernel
theorem dX1_takeApart_69 : decode cX1_takeApart 69 = .ok (.iload_n 3, 1) := by decide +kernel
theorem dX1_takeApart_70 : decode cX1_takeApart 70 = .ok (.ifCond .eq 10, 3) := by decide +kernel
theorem dX1_takeApart_73 : decode cX1_takeApart 73 = .ok (.aload_n 0, 1) := by decide +kernel
theorem dX1_takeApart_74 : decode cX1_takeApart 74 = .ok (.aload_n 2, 1) := by decide +kernel
theorem dX1_takeApart_75 : decode cX1_takeApart 75 = .ok (.iload 5, 2) := by decide +kernel
theorem dX1_takeApart_77 : decode cX1_takeApart 77 = .ok (.invokevirtual 50, 3) := by decide +kernel
theorem dX1_takeApart_80 : decode cX1_takeApart 80 = .ok (.iinc 4 1, 3) := by decide +kernel
theorem dX1_takeApart_83 : decode cX1_takeApart 83 = .ok (.goto (-60), 3) := by decide +kernel
theorem dX1_takeApart_86 : decode cX1_takeApart 86 = .ok (.aload_n 0, 1) := by decide +kernel
theorem dX1_takeApart_87 : decode cX1_takeApart 87 = .ok (.dup, 1) := by decide +kernel
theorem dX1_takeApart_88 : decode cX1_takeApart 88 = .ok (.getfield 25, 3) := by decide +kernel
theorem dX1_takeApart_91 : decode cX1_takeApart 91 = .ok (.aload_n 0, 1) := by decide +kernel
theorem dX1_takeApart_92 : decode cX1_takeApart 92 = .ok (.getfield 34, 3) := by decide +kernel
theorem dX1_takeApart_95 : decode cX1_takeApart 95 = .ok (.invokestatic 54, 3) := by decide +kernel
theorem dX1_takeApart_98 : decode cX1_takeApart 98 = .ok (.iadd, 1) := by decide +kernel
theorem dX1_takeApart_99 : decode cX1_takeApart 99 = .ok (.putfield 25, 3) := by decide +kernel
theorem dX1_takeApart_102 : decode cX1_takeApart 102 = .ok (.return_, 1) := by decide +kernel
theorem dX1_setAside_0 : decode cX1_setAside 0 = .ok (.aload_n 0, 1) := by decide +kernel
theorem dX1_setAside_1 : decode cX1_setAside 1 = .ok (.getfield 21, 3) := by decide +kernel
theorem dX1_setAside_4 : decode cX1_setAside 4 = .ok (.bipush 14, 2) := by decide +kernel
theorem dX1_setAside_6 : decode cX1_setAside 6 = .ok (.if_icmp .ge 15, 3) := by decide +kernel
theorem dX1_setAside_9 : decode cX1_setAside 9 = .ok (.iload_n 2, 1) := by decide +kernel
theorem dX1_setAside_10 : decode cX1_setAside 10 = .ok (.ifCond .lt 11, 3) := by decide +kernel
theorem dX1_setAside_13 : decode cX1_setAside 13 = .ok (.iload_n 2, 1) := by decide +kernel
theorem dX1_setAside_14 : decode cX1_setAside 14 = .ok (.aload_n 1, 1) := by decide +kernel
theorem dX1_setAside_15 : decode cX1_setAside 15 = .ok (.getfield 59, 3) := by decide +kernel
theorem dX1_setAside_18 : decode cX1_setAside 18 = .ok (.if_icmp .lt 4, 3) := by decide +kernel
theorem dX1_setAside_21 : decode cX1_setAside 21 = .ok (.return_, 1) := by decide +kernel
theorem dX1_setAside_22 : decode cX1_setAside 22 = .ok (.aload_n 0, 1) := by decide +kernel
theorem dX1_setAside_23 : decode cX1_setAside 23 = .ok (.getfield 9, 3) := by decide +kernel
theorem dX1_setAside_26 : decode cX1_setAside 26 = .ok (.aload_n 0, 1) := by decide +kernel
theorem dX1_setAside_27 : decode cX1_setAside 27 = .ok (.getfield 21, 3) := by decide +kernel
theorem dX1_setAside_30 : decode cX1_setAside 30 = .ok (.aload_n 1, 1) := by decide +kernel
theorem dX1_setAside_31 : decode cX1_setAside 31 = .ok (.getfield 62, 3) := by decide +kernel
theorem dX1_setAside_34 : decode cX1_setAside 34 = .ok (.iload_n 2, 1) := by decide +kernel
theorem dX1_setAside_35 : decode cX1_setAside 35 = .ok (.iaload, 1) := by decide +kernel
theorem dX1_setAside_36 : decode cX1_setAside 36 = .ok (.iastore, 1) := by decide +kernel
theorem dX1_setAside_37 : decode cX1_setAside 37 = .ok (.aload_n 0, 1) := by decide +kernel
theorem dX1_setAside_38 : decode cX1_setAside 38 = .ok (.getfield 15, 3) := by decide +kernel
theorem dX1_setAside_41 : decode cX1_setAside 41 = .ok (.aload_n 0, 1) := by decide +kernel
theorem dX1_setAside_42 : decode cX1_setAside 42 = .ok (.getfield 21, 3) := by decide +kernel
theorem dX1_setAside_45 : decode cX1_setAside 45 = .ok (.aload_n 1, 1) := by decide +kernel
theorem dX1_setAside_46 : decode cX1_setAside 46 = .ok (.getfield 65, 3) := by decide +kernel
theorem dX1_setAside_49 : decode cX1_setAside 49 = .ok (.iload_n 2, 1) := by decide +kernel
theorem dX1_setAside_50 : decode cX1_setAside 50 = .ok (.iaload, 1) := by decide +kernel
theorem dX1_setAside_51 : decode cX1_setAside 51 = .ok (.iastore, 1) := by decide +kernel
theorem dX1_setAside_52 : decode cX1_setAside 52 = .ok (.aload_n 0, 1) := by decide +kernel
theorem dX1_setAside_53 : decode cX1_setAside 53 = .ok (.getfield 18, 3) := by decide +kernel
theorem dX1_setAside_56 : decode cX1_setAside 56 = .ok (.aload_n 0, 1) := by decide +kernel
theorem dX1_setAside_57 : decode cX1_setAside 57 = .ok (.getfield 21, 3) := by decide +kernel
theorem dX1_setAside_60 : decode cX1_setAside 60 = .ok (.aload_n 1, 1) := by decide +kernel
theorem dX1_setAside_61 : decode cX1_setAside 61 = .ok (.getfield 68, 3) := by decide +kernel
theorem dX1_setAside_64 : decode cX1_setAside 64 = .ok (.iload_n 2, 1) := by decide +kernel
theorem dX1_setAside_65 : decode cX1_setAside 65 = .ok (.iaload, 1) := by decide +kernel
theorem dX1_setAside_66 : decode cX1_setAside 66 = .ok (.iastore, 1) := by decide +kernel
theorem dX1_setAside_67 : decode cX1_setAside 67 = .ok (.aload_n 0, 1) := by decide +kernel
theorem dX1_setAside_68 : decode cX1_setAside 68 = .ok (.dup, 1) := by decide +kernel
theorem dX1_setAside_69 : decode cX1_setAside 69 = .ok (.getfield 25, 3) := by decide +kernel
theorem dX1_setAside_72 : decode cX1_setAside 72 = .ok (.aload_n 0, 1) := by decide +kernel
theorem dX1_setAside_73 : decode cX1_setAside 73 = .ok (.getfield 9, 3) := by decide +kernel
theorem dX1_setAside_76 : decode cX1_setAside 76 = .ok (.aload_n 0, 1) := by decide +kernel
theorem dX1_setAside_77 : decode cX1_setAside 77 = .ok (.getfield 21, 3) := by decide +kernel
theorem dX1_setAside_80 : decode cX1_setAside 80 = .ok (.iaload, 1) := by decide +kernel
theorem dX1_setAside_81 : decode cX1_setAside 81 = .ok (.invokestatic 54, 3) := by decide +kernel
theorem dX1_setAside_84 : decode cX1_setAside 84 = .ok (.aload_n 0, 1) := by decide +kernel
theorem dX1_setAside_85 : decode cX1_setAside 85 = .ok (.getfield 15, 3) := by decide +kernel
theorem dX1_setAside_88 : decode cX1_setAside 88 = .ok (.aload_n 0, 1) := by decide +kernel
theorem dX1_setAside_89 : decode cX1_setAside 89 = .ok (.getfield 21, 3) := by decide +kernel
theorem dX1_setAside_92 : decode cX1_setAside 92 = .ok (.iaload, 1) := by decide +kernel
theorem dX1_setAside_93 : decode cX1_setAside 93 = .ok (.iadd, 1) := by decide +kernel
theorem dX1_setAside_94 : decode cX1_setAside 94 = .ok (.iconst 1, 1) := by decide +kernel
theorem dX1_setAside_95 : decode cX1_setAside 95 = .ok (.isub, 1) := by decide +kernel
theorem dX1_setAside_96 : decode cX1_setAside 96 = .ok (.iadd, 1) := by decide +kernel
theorem dX1_setAside_97 : decode cX1_setAside 97 = .ok (.putfield 25, 3) := by decide +kernel
theorem dX1_setAside_100 : decode cX1_setAside 100 = .ok (.aload_n 0, 1) := by decide +kernel
theorem dX1_setAside_101 : decode cX1_setAside 101 = .ok (.dup, 1) := by decide +kernel
theorem dX1_setAside_102 : decode cX1_setAside 102 = .ok (.getfield 34, 3) := by decide +kernel
theorem dX1_setAside_105 : decode cX1_setAside 105 = .ok (.aload_n 0, 1) := by decide +kernel
theorem dX1_setAside_106 : decode cX1_setAside 106 = .ok (.getfield 18, 3) := by decide +kernel
theorem dX1_setAside_109 : decode cX1_setAside 109 = .ok (.aload_n 0, 1) := by decide +kernel
theorem dX1_setAside_110 : decode cX1_setAside 110 = .ok (.getfield 21, 3) := by decide +kernel
theorem dX1_setAside_113 : decode cX1_setAside 113 = .ok (.iaload, 1) := by decide +kernel
theorem dX1_setAside_114 : decode cX1_setAside 114 = .ok (.iconst (-1), 1) := by decide +kernel
theorem dX1_setAside_115 : decode cX1_setAside 115 = .ok (.ixor, 1) := by decide +kernel
theorem dX1_setAside_116 : decode cX1_setAside 116 = .ok (.iand, 1) := by decide +kernel
theorem dX1_setAside_117 : decode cX1_setAside 117 = .ok (.putfield 34, 3) := by decide +kernel
theorem dX1_setAside_120 : decode cX1_setAside 120 = .ok (.aload_n 0, 1) := by decide +kernel
theorem dX1_setAside_121 : decode cX1_setAside 121 = .ok (.dup, 1) := by decide +kernel
theorem dX1_setAside_122 : decode cX1_setAside 122 = .ok (.getfield 21, 3) := by decide +kernel
theorem dX1_setAside_125 : decode cX1_setAside 125 = .ok (.iconst 1, 1) := by decide +kernel
theorem dX1_setAside_126 : decode cX1_setAside 126 = .ok (.iadd, 1) := by decide +kernel
theorem dX1_setAside_127 : decode cX1_setAside 127 = .ok (.putfield 21, 3) := by decide +kernel
theorem dX1_setAside_130 : decode cX1_setAside 130 = .ok (.return_, 1) := by decide +kernel
theorem dX2_init_0 : decode cX2_init 0 = .ok (.aload_n 0, 1) := by decide +kernel
theorem dX2_init_1 : decode cX2_init 1 = .ok (.invokespecial 3, 3) := by decide +kernel
theorem dX2_init_4 : decode cX2_init 4 = .ok (.aload_n 0, 1) := by decide +kernel
theorem dX2_init_5 : decode cX2_init 5 = .ok (.bipush 14, 2) := by decide +kernel
theorem dX2_init_7 : decode cX2_init 7 = .ok (.newarray .int, 2) := by decide +kernel
theorem dX2_init_9 : decode cX2_init 9 = .ok (.putfield 9, 3) := by decide +kernel
theorem dX2_init_12 : decode cX2_init 12 = .ok (.return_, 1) := by decide +kernel
theorem dX2_timeOf_0 : decode cX2_timeOf 0 = .ok (.iload_n 1, 1) := by decide +kernel
theorem dX2_timeOf_1 : decode cX2_timeOf 1 = .ok (.ifCond .lt 23, 3) := by decide +kernel
theorem dX2_timeOf_4 : decode cX2_timeOf 4 = .ok (.iload_n 1, 1) := by decide +kernel
theorem dX2_timeOf_5 : decode cX2_timeOf 5 = .ok (.aload_n 0, 1) := by decide +kernel
theorem dX2_timeOf_6 : decode cX2_timeOf 6 = .ok (.getfield 15, 3) := by decide +kernel
theorem dX2_timeOf_9 : decode cX2_timeOf 9 = .ok (.if_icmp .ge 15, 3) := by decide +kernel
theorem dX2_timeOf_12 : decode cX2_timeOf 12 = .ok (.aload_n 0, 1) := by decide +kernel
theorem dX2_timeOf_13 : decode cX2_timeOf 13 = .ok (.getfield 9, 3) := by decide +kernel
theorem dX2_timeOf_16 : decode cX2_timeOf 16 = .ok (.iload_n 1, 1) := by decide +kernel
theorem dX2_timeOf_17 : decode cX2_timeOf 17 = .ok (.iaload, 1) := by decide +kernel
theorem dX2_timeOf_18 : decode cX2_timeOf 18 = .ok (.bipush 12, 2) := by decide +kernel
theorem dX2_timeOf_20 : decode cX2_timeOf 20 = .ok (.idiv, 1) := by decide +kernel
theorem dX2_timeOf_21 : decode cX2_timeOf 21 = .ok (.goto 5, 3) := by decide +kernel
theorem dX2_timeOf_24 : decode cX2_timeOf 24 = .ok (.bipush (-4), 2) := by decide +kernel
theorem dX2_timeOf_26 : decode cX2_timeOf 26 = .ok (.ireturn, 1) := by decide +kernel
theorem dX2_pitchOf_0 : decode cX2_pitchOf 0 = .ok (.iload_n 1, 1) := by decide +kernel
theorem dX2_pitchOf_1 : decode cX2_pitchOf 1 = .ok (.ifCond .lt 23, 3) := by decide +kernel
theorem dX2_pitchOf_4 : decode cX2_pitchOf 4 = .ok (.iload_n 1, 1) := by decide +kernel
theorem dX2_pitchOf_5 : decode cX2_pitchOf 5 = .ok (.aload_n 0, 1) := by decide +kernel
theorem dX2_pitchOf_6 : decode cX2_pitchOf 6 = .ok (.getfield 15, 3) := by decide +kernel
theorem dX2_pitchOf_9 : decode cX2_pitchOf 9 = .ok (.if_icmp .ge 15, 3) := by decide +kernel
theorem dX2_pitchOf_12 : decode cX2_pitchOf 12 = .ok (.aload_n 0, 1) := by decide +kernel
theorem dX2_pitchOf_13 : decode cX2_pitchOf 13 = .ok (.getfield 9, 3) := by decide +kernel
theorem dX2_pitchOf_16 : decode cX2_pitchOf 16 = .ok (.iload_n 1, 1) := by decide +kernel
theorem dX2_pitchOf_17 : decode cX2_pitchOf 17 = .ok (.iaload, 1) := by decide +kernel
theorem dX2_pitchOf_18 : decode cX2_pitchOf 18 = .ok (.bipush 12, 2) := by decide +kernel
theorem dX2_pitchOf_20 : decode cX2_pitchOf 20 = .ok (.irem, 1) := by decide +kernel
theorem dX2_pitchOf_21 : decode cX2_pitchOf 21 = .ok (.goto 5, 3) := by decide +kernel
theorem dX2_pitchOf_24 : decode cX2_pitchOf 24 = .ok (.bipush (-4), 2) := by decide +kernel
theorem dX2_pitchOf_26 : decode cX2_pitchOf 26 = .ok (.ireturn, 1) := by decide +kernel
theorem dX2_allNotes_0 : decode cX2_allNotes 0 = .ok (.iconst 1, 1) := by decide +kernel
theorem dX2_allNotes_1 : decode cX2_allNotes 1 = .ok (.aload_n 0, 1) := by decide +kernel
theorem dX2_allNotes_2 : decode cX2_allNotes 2 = .ok (.getfield 15, 3) := by decide +kernel
theorem dX2_allNotes_5 : decode cX2_allNotes 5 = .ok (.ishl, 1) := by decide +kernel
theorem dX2_allNotes_6 : decode cX2_allNotes 6 = .ok (.iconst 1, 1) := by decide +kernel
theorem dX2_allNotes_7 : decode cX2_allNotes 7 = .ok (.isub, 1) := by decide +kernel
theorem dX2_allNotes_8 : decode cX2_allNotes 8 = .ok (.ireturn, 1) := by decide +kernel
theorem dX2_numberOf_0 : decode cX2_numberOf 0 = .ok (.iconst 0, 1) := by decide +kernel
theorem dX2_numberOf_1 : decode cX2_numberOf 1 = .ok (.istore_n 2, 1) := by decide +kernel
theorem dX2_numberOf_2 : decode cX2_numberOf 2 = .ok (.iload_n 2, 1) := by decide +kernel
theorem dX2_numberOf_3 : decode cX2_numberOf 3 = .ok (.aload_n 0, 1) := by decide +kernel
theorem dX2_numberOf_4 : decode cX2_numberOf 4 = .ok (.getfield 15, 3) := by decide +kernel
theorem dX2_numberOf_7 : decode cX2_numberOf 7 = .ok (.if_icmp .ge 21, 3) := by decide +kernel
theorem dX2_numberOf_10 : decode cX2_numberOf 10 = .ok (.aload_n 0, 1) := by decide +kernel
theorem dX2_numberOf_11 : decode cX2_numberOf 11 = .ok (.getfield 9, 3) := by decide +kernel
theorem dX2_numberOf_14 : decode cX2_numberOf 14 = .ok (.iload_n 2, 1) := by decide +kernel
theorem dX2_numberOf_15 : decode cX2_numberOf 15 = .ok (.iaload, 1) := by decide +kernel
theorem dX2_numberOf_16 : decode cX2_numberOf 16 = .ok (.iload_n 1, 1) := by decide +kernel
theorem dX2_numberOf_17 : decode cX2_numberOf 17 = .ok (.if_icmp .ne 5, 3) := by decide +kernel
theorem dX2_numberOf_20 : decode cX2_numberOf 20 = .ok (.iload_n 2, 1) := by decide +kernel
theorem dX2_numberOf_21 : decode cX2_numberOf 21 = .ok (.ireturn, 1) := by decide +kernel
theorem dX2_numberOf_22 : decode cX2_numberOf 22 = .ok (.iinc 2 1, 3) := by decide +kernel
theorem dX2_numberOf_25 : decode cX2_numberOf 25 = .ok (.goto (-23), 3) := by decide +kernel
theorem dX2_numberOf_28 : decode cX2_numberOf 28 = .ok (.bipush (-4), 2) := by decide +kernel
theorem dX2_numberOf_30 : decode cX2_numberOf 30 = .ok (.ireturn, 1) := by decide +kernel
theorem dX2_insert_0 : decode cX2_insert 0 = .ok (.aload_n 0, 1) := by decide +kernel
theorem dX2_insert_1 : decode cX2_insert 1 = .ok (.getfield 15, 3) := by decide +kernel
theorem dX2_insert_4 : decode cX2_insert 4 = .ok (.bipush 14, 2) := by decide +kernel
theorem dX2_insert_6 : decode cX2_insert 6 = .ok (.if_icmp .lt 6, 3) := by decide +kernel
theorem dX2_insert_9 : decode cX2_insert 9 = .ok (.bipush (-3), 2) := by decide +kernel
theorem dX2_insert_11 : decode cX2_insert 11 = .ok (.ireturn, 1) := by decide +kernel
theorem dX2_insert_12 : decode cX2_insert 12 = .ok (.aload_n 0, 1) := by decide +kernel
theorem dX2_insert_13 : decode cX2_insert 13 = .ok (.getfield 15, 3) := by decide +kernel
theorem dX2_insert_16 : decode cX2_insert 16 = .ok (.istore_n 2, 1) := by decide +kernel
theorem dX2_insert_17 : decode cX2_insert 17 = .ok (.iload_n 2, 1) := by decide +kernel
theorem dX2_insert_18 : decode cX2_insert 18 = .ok (.ifCond .le 35, 3) := by decide +kernel
theorem dX2_insert_21 : decode cX2_insert 21 = .ok (.aload_n 0, 1) := by decide +kernel
theorem dX2_insert_22 : decode cX2_insert 22 = .ok (.getfield 9, 3) := by decide +kernel
theorem dX2_insert_25 : decode cX2_insert 25 = .ok (.iload_n 2, 1) := by decide +kernel
theorem dX2_insert_26 : decode cX2_insert 26 = .ok (.iconst 1, 1) := by decide +kernel
theorem dX2_insert_27 : decode cX2_insert 27 = .ok (.isub, 1) := by decide +kernel
theorem dX2_insert_28 : decode cX2_insert 28 = .ok (.iaload, 1) := by decide +kernel
theorem dX2_insert_29 : decode cX2_insert 29 = .ok (.iload_n 1, 1) := by decide +kernel
theorem dX2_insert_30 : decode cX2_insert 30 = .ok (.if_icmp .le 23, 3) := by decide +kernel
theorem dX2_insert_33 : decode cX2_insert 33 = .ok (.aload_n 0, 1) := by decide +kernel
theorem dX2_insert_34 : decode cX2_insert 34 = .ok (.getfield 9, 3) := by decide +kernel
theorem dX2_insert_37 : decode cX2_insert 37 = .ok (.iload_n 2, 1) := by decide +kernel
theorem dX2_insert_38 : decode cX2_insert 38 = .ok (.aload_n 0, 1) := by decide +kernel
theorem dX2_insert_39 : decode cX2_insert 39 = .ok (.getfield 9, 3) := by decide +kernel
theorem dX2_insert_42 : decode cX2_insert 42 = .ok (.iload_n 2, 1) := by decide +kernel
theorem dX2_insert_43 : decode cX2_insert 43 = .ok (.iconst 1, 1) := by decide +kernel
theorem dX2_insert_44 : decode cX2_insert 44 = .ok (.isub, 1) := by decide +kernel
theorem dX2_insert_45 : decode cX2_insert 45 = .ok (.iaload, 1) := by decide +kernel
theorem dX2_insert_46 : decode cX2_insert 46 = .ok (.iastore, 1) := by decide +kernel
theorem dX2_insert_47 : decode cX2_insert 47 = .ok (.iinc 2 (-1), 3) := by decide +kernel
theorem dX2_insert_50 : decode cX2_insert 50 = .ok (.goto (-33), 3) := by decide +kernel
theorem dX2_insert_53 : decode cX2_insert 53 = .ok (.aload_n 0, 1) := by decide +kernel
theorem dX2_insert_54 : decode cX2_insert 54 = .ok (.getfield 9, 3) := by decide +kernel
theorem dX2_insert_57 : decode cX2_insert 57 = .ok (.iload_n 2, 1) := by decide +kernel
theorem dX2_insert_58 : decode cX2_insert 58 = .ok (.iload_n 1, 1) := by decide +kernel
theorem dX2_insert_59 : decode cX2_insert 59 = .ok (.iastore, 1) := by decide +kernel
theorem dX2_insert_60 : decode cX2_insert 60 = .ok (.aload_n 0, 1) := by decide +kernel
theorem dX2_insert_61 : decode cX2_insert 61 = .ok (.dup, 1) := by decide +kernel
theorem dX2_insert_62 : decode cX2_insert 62 = .ok (.getfield 15, 3) := by decide +kernel
theorem dX2_insert_65 : decode cX2_insert 65 = .ok (.iconst 1, 1) := by decide +kernel
theorem dX2_insert_66 : decode cX2_insert 66 = .ok (.iadd, 1) := by decide +kernel
theorem dX2_insert_67 : decode cX2_insert 67 = .ok (.putfield 15, 3) := by decide +kernel
theorem dX2_insert_70 : decode cX2_insert 70 = .ok (.iload_n 2, 1) := by decide +kernel
theorem dX2_insert_71 : decode cX2_insert 71 = .ok (.ireturn, 1) := by decide +kernel
theorem dX2_remove_0 : decode cX2_remove 0 = .ok (.iload_n 1, 1) := by decide +kernel
theorem dX2_remove_1 : decode cX2_remove 1 = .ok (.ifCond .lt 11, 3) := by decide +kernel
theorem dX2_remove_4 : decode cX2_remove 4 = .ok (.iload_n 1, 1) := by decide +kernel
theorem dX2_remove_5 : decode cX2_remove 5 = .ok (.aload_n 0, 1) := by decide +kernel
theorem dX2_remove_6 : decode cX2_remove 6 = .ok (.getfield 15, 3) := by decide +kernel
theorem dX2_remove_9 : decode cX2_remove 9 = .ok (.if_icmp .lt 4, 3) := by decide +kernel
theorem dX2_remove_12 : decode cX2_remove 12 = .ok (.return_, 1) := by decide +kernel
theorem dX2_remove_13 : decode cX2_remove 13 = .ok (.aload_n 0, 1) := by decide +kernel
theorem dX2_remove_14 : decode cX2_remove 14 = .ok (.dup, 1) := by decide +kernel
theorem dX2_remove_15 : decode cX2_remove 15 = .ok (.getfield 15, 3) := by decide +kernel
theorem dX2_remove_18 : decode cX2_remove 18 = .ok (.iconst 1, 1) := by decide +kernel
theorem dX2_remove_19 : decode cX2_remove 19 = .ok (.isub, 1) := by decide +kernel
theorem dX2_remove_20 : decode cX2_remove 20 = .ok (.putfield 15, 3) := by decide +kernel
theorem dX2_remove_23 : decode cX2_remove 23 = .ok (.iload_n 1, 1) := by decide +kernel
theorem dX2_remove_24 : decode cX2_remove 24 = .ok (.istore_n 2, 1) := by decide +kernel
theorem dX2_remove_25 : decode cX2_remove 25 = .ok (.iload_n 2, 1) := by decide +kernel
theorem dX2_remove_26 : decode cX2_remove 26 = .ok (.aload_n 0, 1) := by decide +kernel
theorem dX2_remove_27 : decode cX2_remove 27 = .ok (.getfield 15, 3) := by decide +kernel
theorem dX2_remove_30 : decode cX2_remove 30 = .ok (.if_icmp .ge 23, 3) := by decide +kernel
theorem dX2_remove_33 : decode cX2_remove 33 = .ok (.aload_n 0, 1) := by decide +kernel
theorem dX2_remove_34 : decode cX2_remove 34 = .ok (.getfield 9, 3) := by decide +kernel
theorem dX2_remove_37 : decode cX2_remove 37 = .ok (.iload_n 2, 1) := by decide +kernel
theorem dX2_remove_38 : decode cX2_remove 38 = .ok (.aload_n 0, 1) := by decide +kernel
theorem dX2_remove_39 : decode cX2_remove 39 = .ok (.getfield 9, 3) := by decide +kernel
theorem dX2_remove_42 : decode cX2_remove 42 = .ok (.iload_n 2, 1) := by decide +kernel
theorem dX2_remove_43 : decode cX2_remove 43 = .ok (.iconst 1, 1) := by decide +kernel
theorem dX2_remove_44 : decode cX2_remove 44 = .ok (.iadd, 1) := by decide +kernel
theorem dX2_remove_45 : decode cX2_remove 45 = .ok (.iaload, 1) := by decide +kernel
theorem dX2_remove_46 : decode cX2_remove 46 = .ok (.iastore, 1) := by decide +kernel
theorem dX2_remove_47 : decode cX2_remove 47 = .ok (.iinc 2 1, 3) := by decide +kernel
theorem dX2_remove_50 : decode cX2_remove 50 = .ok (.goto (-25), 3) := by decide +kernel
theorem dX2_remove_53 : decode cX2_remove 53 = .ok (.return_, 1) := by decide +kernel
theorem dX2_moveAll_0 : decode cX2_moveAll 0 = .ok (.iconst 0, 1) := by decide +kernel
theorem dX2_moveAll_1 : decode cX2_moveAll 1 = .ok (.istore_n 2, 1) := by decide +kernel
theorem dX2_moveAll_2 : decode cX2_moveAll 2 = .ok (.iload_n 2, 1) := by decide +kernel
theorem dX2_moveAll_3 : decode cX2_moveAll 3 = .ok (.aload_n 0, 1) := by decide +kernel
theorem dX2_moveAll_4 : decode cX2_moveAll 4 = .ok (.getfield 15, 3) := by decide +kernel
theorem dX2_moveAll_7 : decode cX2_moveAll 7 = .ok (.if_icmp .ge 19, 3) := by decide +kernel
theorem dX2_moveAll_10 : decode cX2_moveAll 10 = .ok (.aload_n 0, 1) := by decide +kernel
theorem dX2_moveAll_11 : decode cX2_moveAll 11 = .ok (.getfield 9, 3) := by decide +kernel
theorem dX2_moveAll_14 : decode cX2_moveAll 14 = .ok (.iload_n 2, 1) := by decide +kernel
theorem dX2_moveAll_15 : decode cX2_moveAll 15 = .ok (.dup2, 1) := by decide +kernel
theorem dX2_moveAll_16 : decode cX2_moveAll 16 = .ok (.iaload, 1) := by decide +kernel
theorem dX2_moveAll_17 : decode cX2_moveAll 17 = .ok (.iload_n 1, 1) := by decide +kernel
theorem dX2_moveAll_18 : decode cX2_moveAll 18 = .ok (.iadd, 1) := by decide +kernel
theorem dX2_moveAll_19 : decode cX2_moveAll 19 = .ok (.iastore, 1) := by decide +kernel
theorem dX2_moveAll_20 : decode cX2_moveAll 20 = .ok (.iinc 2 1, 3) := by decide +kernel
theorem dX2_moveAll_23 : decode cX2_moveAll 23 = .ok (.goto (-21), 3) := by decide +kernel
theorem dX2_moveAll_26 : decode cX2_moveAll 26 = .ok (.return_, 1) := by decide +kernel
theorem dX2_copyFrom_0 : decode cX2_copyFrom 0 = .ok (.aload_n 1, 1) := by decide +kernel
theorem dX2_copyFrom_1 : decode cX2_copyFrom 1 = .ok (.getfield 9, 3) := by decide +kernel
theorem dX2_copyFrom_4 : decode cX2_copyFrom 4 = .ok (.iconst 0, 1) := by decide +kernel
theorem dX2_copyFrom_5 : decode cX2_copyFrom 5 = .ok (.aload_n 0, 1) := by decide +kernel
theorem dX2_copyFrom_6 : decode cX2_copyFrom 6 = .ok (.getfield 9, 3) := by decide +kernel
theorem dX2_copyFrom_9 : decode cX2_copyFrom 9 = .ok (.iconst 0, 1) := by decide +kernel
theorem dX2_copyFrom_10 : decode cX2_copyFrom 10 = .ok (.bipush 14, 2) := by decide +kernel
theorem dX2_copyFrom_12 : decode cX2_copyFrom 12 = .ok (.invokestatic 19, 3) := by decide +kernel
theorem dX2_copyFrom_15 : decode cX2_copyFrom 15 = .ok (.aload_n 0, 1) := by decide +kernel
theorem dX2_copyFrom_16 : decode cX2_copyFrom 16 = .ok (.aload_n 1, 1) := by decide +kernel
theorem dX2_copyFrom_17 : decode cX2_copyFrom 17 = .ok (.getfield 15, 3) := by decide +kernel
theorem dX2_copyFrom_20 : decode cX2_copyFrom 20 = .ok (.putfield 15, 3) := by decide +kernel
theorem dX2_copyFrom_23 : decode cX2_copyFrom 23 = .ok (.aload_n 0, 1) := by decide +kernel
theorem dX2_copyFrom_24 : decode cX2_copyFrom 24 = .ok (.aload_n 1, 1) := by decide +kernel
theorem dX2_copyFrom_25 : decode cX2_copyFrom 25 = .ok (.getfield 25, 3) := by decide +kernel
theorem dX2_copyFrom_28 : decode cX2_copyFrom 28 = .ok (.putfield 25, 3) := by decide +kernel
theorem dX2_copyFrom_31 : decode cX2_copyFrom 31 = .ok (.return_, 1) := by decide +kernel
theorem dX3_init_0 : decode cX3_init 0 = .ok (.aload_n 0, 1) := by decide +kernel
theorem dX3_init_1 : decode cX3_init 1 = .ok (.invokespecial 1, 3) := by decide +kernel
theorem dX3_init_4 : decode cX3_init 4 = .ok (.aload_n 0, 1) := by decide +kernel
theorem dX3_init_5 : decode cX3_init 5 = .ok (.iload_n 1, 1) := by decide +kernel
theorem dX3_init_6 : decode cX3_init 6 = .ok (.iconst 1, 1) := by decide +kernel
theorem dX3_init_7 : decode cX3_init 7 = .ok (.invokestatic 7, 3) := by decide +kernel
theorem dX3_init_10 : decode cX3_init 10 = .ok (.anewarray 13, 3) := by decide +kernel
theorem dX3_init_13 : decode cX3_init 13 = .ok (.putfield 15, 3) := by decide +kernel
theorem dX3_init_16 : decode cX3_init 16 = .ok (.iconst 0, 1) := by decide +kernel
theorem dX3_init_17 : decode cX3_init 17 = .ok (.istore_n 2, 1) := by decide +kernel
theorem dX3_init_18 : decode cX3_init 18 = .ok (.iload_n 2, 1) := by decide +kernel
theorem dX3_init_19 : decode cX3_init 19 = .ok (.aload_n 0, 1) := by decide +kernel
theorem dX3_init_20 : decode cX3_init 20 = .ok (.getfield 15, 3) := by decide +kernel
theorem dX3_init_23 : decode cX3_init 23 = .ok (.arraylength, 1) := by decide +kernel
theorem dX3_init_24 : decode cX3_init 24 = .ok (.if_icmp .ge 22, 3) := by decide +kernel
theorem dX3_init_27 : decode cX3_init 27 = .ok (.aload_n 0, 1) := by decide +kernel
theorem dX3_init_28 : decode cX3_init 28 = .ok (.getfield 15, 3) := by decide +kernel
theorem dX3_init_31 : decode cX3_init 31 = .ok (.iload_n 2, 1) := by decide +kernel
theorem dX3_init_32 : decode cX3_init 32 = .ok (.new 13, 3) := by decide +kernel
theorem dX3_init_35 : decode cX3_init 35 = .ok (.dup, 1) := by decide +kernel
theorem dX3_init_36 : decode cX3_init 36 = .ok (.invokespecial 21, 3) := by decide +kernel
theorem dX3_init_39 : decode cX3_init 39 = .ok (.aastore, 1) := by decide +kernel
theorem dX3_init_40 : decode cX3_init 40 = .ok (.iinc 2 1, 3) := by decide +kernel
theorem dX3_init_43 : decode cX3_init 43 = .ok (.goto (-25), 3) := by decide +kernel
theorem dX3_init_46 : decode cX3_init 46 = .ok (.return_, 1) := by decide +kernel
theorem dX3_push_0 : decode cX3_push 0 = .ok (.aload_n 0, 1) := by decide +kernel
theorem dX3_push_1 : decode cX3_push 1 = .ok (.getfield 22, 3) := by decide +kernel
theorem dX3_push_4 : decode cX3_push 4 = .ok (.aload_n 0, 1) := by decide +kernel
theorem dX3_push_5 : decode cX3_push 5 = .ok (.getfield 15, 3) := by decide +kernel
theorem dX3_push_8 : decode cX3_push 8 = .ok (.arraylength, 1) := by decide +kernel
theorem dX3_push_9 : decode cX3_push 9 = .ok (.if_icmp .lt 7, 3) := by decide +kernel
theorem dX3_push_12 : decode cX3_push 12 = .ok (.aload_n 0, 1) := by decide +kernel
theorem dX3_push_13 : decode cX3_push 13 = .ok (.invokevirtual 26, 3) := by decide +kernel
theorem dX3_push_16 : decode cX3_push 16 = .ok (.aload_n 0, 1) := by decide +kernel
theorem dX3_push_17 : decode cX3_push 17 = .ok (.getfield 15, 3) := by decide +kernel
theorem dX3_push_20 : decode cX3_push 20 = .ok (.aload_n 0, 1) := by decide +kernel
theorem dX3_push_21 : decode cX3_push 21 = .ok (.getfield 22, 3) := by decide +kernel
theorem dX3_push_24 : decode cX3_push 24 = .ok (.aaload, 1) := by decide +kernel
theorem dX3_push_25 : decode cX3_push 25 = .ok (.aload_n 1, 1) := by decide +kernel
theorem dX3_push_26 : decode cX3_push 26 = .ok (.invokevirtual 29, 3) := by decide +kernel
theorem dX3_push_29 : decode cX3_push 29 = .ok (.aload_n 0, 1) := by decide +kernel
theorem dX3_push_30 : decode cX3_push 30 = .ok (.dup, 1) := by decide +kernel
theorem dX3_push_31 : decode cX3_push 31 = .ok (.getfield 22, 3) := by decide +kernel
theorem dX3_push_34 : decode cX3_push 34 = .ok (.iconst 1, 1) := by decide +kernel
theorem dX3_push_35 : decode cX3_push 35 = .ok (.iadd, 1) := by decide +kernel
theorem dX3_push_36 : decode cX3_push 36 = .ok (.putfield 22, 3) := by decide +kernel
theorem dX3_push_39 : decode cX3_push 39 = .ok (.return_, 1) := by decide +kernel
theorem dX3_popInto_0 : decode cX3_popInto 0 = .ok (.aload_n 0, 1) := by decide +kernel
theorem dX3_popInto_1 : decode cX3_popInto 1 = .ok (.getfield 22, 3) := by decide +kernel
theorem dX3_popInto_4 : decode cX3_popInto 4 = .ok (.ifCond .le 26, 3) := by decide +kernel
theorem dX3_popInto_7 : decode cX3_popInto 7 = .ok (.aload_n 0, 1) := by decide +kernel
theorem dX3_popInto_8 : decode cX3_popInto 8 = .ok (.dup, 1) := by decide +kernel
theorem dX3_popInto_9 : decode cX3_popInto 9 = .ok (.getfield 22, 3) := by decide +kernel
theorem dX3_popInto_12 : decode cX3_popInto 12 = .ok (.iconst 1, 1) := by decide +kernel
theorem dX3_popInto_13 : decode cX3_popInto 13 = .ok (.isub, 1) := by decide +kernel
theorem dX3_popInto_14 : decode cX3_popInto 14 = .ok (.putfield 22, 3) := by decide +kernel
theorem dX3_popInto_17 : decode cX3_popInto 17 = .ok (.aload_n 1, 1) := by decide +kernel
theorem dX3_popInto_18 : decode cX3_popInto 18 = .ok (.aload_n 0, 1) := by decide +kernel
theorem dX3_popInto_19 : decode cX3_popInto 19 = .ok (.getfield 15, 3) := by decide +kernel
theorem dX3_popInto_22 : decode cX3_popInto 22 = .ok (.aload_n 0, 1) := by decide +kernel
theorem dX3_popInto_23 : decode cX3_popInto 23 = .ok (.getfield 22, 3) := by decide +kernel
theorem dX3_popInto_26 : decode cX3_popInto 26 = .ok (.aaload, 1) := by decide +kernel
theorem dX3_popInto_27 : decode cX3_popInto 27 = .ok (.invokevirtual 29, 3) := by decide +kernel
theorem dX3_popInto_30 : decode cX3_popInto 30 = .ok (.return_, 1) := by decide +kernel
theorem dX3_dropOldest_0 : decode cX3_dropOldest 0 = .ok (.aload_n 0, 1) := by decide +kernel
theorem dX3_dropOldest_1 : decode cX3_dropOldest 1 = .ok (.getfield 15, 3) := by decide +kernel
theorem dX3_dropOldest_4 : decode cX3_dropOldest 4 = .ok (.iconst 0, 1) := by decide +kernel
theorem dX3_dropOldest_5 : decode cX3_dropOldest 5 = .ok (.aaload, 1) := by decide +kernel
theorem dX3_dropOldest_6 : decode cX3_dropOldest 6 = .ok (.astore_n 1, 1) := by decide +kernel
theorem dX3_dropOldest_7 : decode cX3_dropOldest 7 = .ok (.iconst 1, 1) := by decide +kernel
theorem dX3_dropOldest_8 : decode cX3_dropOldest 8 = .ok (.istore_n 2, 1) := by decide +kernel
theorem dX3_dropOldest_9 : decode cX3_dropOldest 9 = .ok (.iload_n 2, 1) := by decide +kernel
theorem dX3_dropOldest_10 : decode cX3_dropOldest 10 = .ok (.aload_n 0, 1) := by decide +kernel
theorem dX3_dropOldest_11 : decode cX3_dropOldest 11 = .ok (.getfield 15, 3) := by decide +kernel
theorem dX3_dropOldest_14 : decode cX3_dropOldest 14 = .ok (.arraylength, 1) := by decide +kernel
theorem dX3_dropOldest_15 : decode cX3_dropOldest 15 = .ok (.if_icmp .ge 23, 3) := by decide +kernel
theorem dX3_dropOldest_18 : decode cX3_dropOldest 18 = .ok (.aload_n 0, 1) := by decide +kernel
theorem dX3_dropOldest_19 : decode cX3_dropOldest 19 = .ok (.getfield 15, 3) := by decide +kernel
theorem dX3_dropOldest_22 : decode cX3_dropOldest 22 = .ok (.iload_n 2, 1) := by decide +kernel
theorem dX3_dropOldest_23 : decode cX3_dropOldest 23 = .ok (.iconst 1, 1) := by decide +kernel
theorem dX3_dropOldest_24 : decode cX3_dropOldest 24 = .ok (.isub, 1) := by decide +kernel
theorem dX3_dropOldest_25 : decode cX3_dropOldest 25 = .ok (.aload_n 0, 1) := by decide +kernel
theorem dX3_dropOldest_26 : decode cX3_dropOldest 26 = .ok (.getfield 15, 3) := by decide +kernel
theorem dX3_dropOldest_29 : decode cX3_dropOldest 29 = .ok (.iload_n 2, 1) := by decide +kernel
theorem dX3_dropOldest_30 : decode cX3_dropOldest 30 = .ok (.aaload, 1) := by decide +kernel
theorem dX3_dropOldest_31 : decode cX3_dropOldest 31 = .ok (.aastore, 1) := by decide +kernel
theorem dX3_dropOldest_32 : decode cX3_dropOldest 32 = .ok (.iinc 2 1, 3) := by decide +kernel
theorem dX3_dropOldest_35 : decode cX3_dropOldest 35 = .ok (.goto (-26), 3) := by decide +kernel
theorem dX3_dropOldest_38 : decode cX3_dropOldest 38 = .ok (.aload_n 0, 1) := by decide +kernel
theorem dX3_dropOldest_39 : decode cX3_dropOldest 39 = .ok (.getfield 15, 3) := by decide +kernel
theorem dX3_dropOldest_42 : decode cX3_dropOldest 42 = .ok (.aload_n 0, 1) := by decide +kernel
theorem dX3_dropOldest_43 : decode cX3_dropOldest 43 = .ok (.getfield 15, 3) := by decide +kernel
theorem dX3_dropOldest_46 : decode cX3_dropOldest 46 = .ok (.arraylength, 1) := by decide +kernel
theorem dX3_dropOldest_47 : decode cX3_dropOldest 47 = .ok (.iconst 1, 1) := by decide +kernel
theorem dX3_dropOldest_48 : decode cX3_dropOldest 48 = .ok (.isub, 1) := by decide +kernel
theorem dX3_dropOldest_49 : decode cX3_dropOldest 49 = .ok (.aload_n 1, 1) := by decide +kernel
theorem dX3_dropOldest_50 : decode cX3_dropOldest 50 = .ok (.aastore, 1) := by decide +kernel
theorem dX3_dropOldest_51 : decode cX3_dropOldest 51 = .ok (.aload_n 0, 1) := by decide +kernel
theorem dX3_dropOldest_52 : decode cX3_dropOldest 52 = .ok (.aload_n 0, 1) := by decide +kernel
theorem dX3_dropOldest_53 : decode cX3_dropOldest 53 = .ok (.getfield 15, 3) := by decide +kernel
theorem dX3_dropOldest_56 : decode cX3_dropOldest 56 = .ok (.arraylength, 1) := by decide +kernel
theorem dX3_dropOldest_57 : decode cX3_dropOldest 57 = .ok (.iconst 1, 1) := by decide +kernel
theorem dX3_dropOldest_58 : decode cX3_dropOldest 58 = .ok (.isub, 1) := by decide +kernel
theorem dX3_dropOldest_59 : decode cX3_dropOldest 59 = .ok (.putfield 22, 3) := by decide +kernel
theorem dX3_dropOldest_62 : decode cX3_dropOldest 62 = .ok (.return_, 1) := by decide +kernel
theorem dX4_init_0 : decode cX4_init 0 = .ok (.aload_n 0, 1) := by decide +kernel
theorem dX4_init_1 : decode cX4_init 1 = .ok (.invokespecial 3, 3) := by decide +kernel
theorem dX4_init_4 : decode cX4_init 4 = .ok (.aload_n 0, 1) := by decide +kernel
theorem dX4_init_5 : decode cX4_init 5 = .ok (.sipush 200, 3) := by decide +kernel
theorem dX4_init_8 : decode cX4_init 8 = .ok (.newarray .int, 2) := by decide +kernel
theorem dX4_init_10 : decode cX4_init 10 = .ok (.putfield 9, 3) := by decide +kernel
theorem dX4_init_13 : decode cX4_init 13 = .ok (.return_, 1) := by decide +kernel
theorem dX4_append_0 : decode cX4_append 0 = .ok (.aload_n 0, 1) := by decide +kernel
theorem dX4_append_1 : decode cX4_append 1 = .ok (.getfield 15, 3) := by decide +kernel
theorem dX4_append_4 : decode cX4_append 4 = .ok (.sipush 200, 3) := by decide +kernel
theorem dX4_append_7 : decode cX4_append 7 = .ok (.if_icmp .lt 5, 3) := by decide +kernel
theorem dX4_append_10 : decode cX4_append 10 = .ok (.iconst 0, 1) := by decide +kernel
theorem dX4_append_11 : decode cX4_append 11 = .ok (.ireturn, 1) := by decide +kernel
theorem dX4_append_12 : decode cX4_append 12 = .ok (.aload_n 0, 1) := by decide +kernel
theorem dX4_append_13 : decode cX4_append 13 = .ok (.getfield 9, 3) := by decide +kernel
theorem dX4_append_16 : decode cX4_append 16 = .ok (.aload_n 0, 1) := by decide +kernel
theorem dX4_append_17 : decode cX4_append 17 = .ok (.getfield 15, 3) := by decide +kernel
theorem dX4_append_20 : decode cX4_append 20 = .ok (.iload_n 1, 1) := by decide +kernel
theorem dX4_append_21 : decode cX4_append 21 = .ok (.iastore, 1) := by decide +kernel
theorem dX4_append_22 : decode cX4_append 22 = .ok (.aload_n 0, 1) := by decide +kernel
theorem dX4_append_23 : decode cX4_append 23 = .ok (.dup, 1) := by decide +kernel
theorem dX4_append_24 : decode cX4_append 24 = .ok (.getfield 15, 3) := by decide +kernel
theorem dX4_append_27 : decode cX4_append 27 = .ok (.iconst 1, 1) := by decide +kernel
theorem dX4_append_28 : decode cX4_append 28 = .ok (.iadd, 1) := by decide +kernel
theorem dX4_append_29 : decode cX4_append 29 = .ok (.putfield 15, 3) := by decide +kernel
theorem dX4_append_32 : decode cX4_append 32 = .ok (.iconst 1, 1) := by decide +kernel
theorem dX4_append_33 : decode cX4_append 33 = .ok (.ireturn, 1) := by decide +kernel
theorem dX4_readInto_0 : decode cX4_readInto 0 = .ok (.aload_n 1, 1) := by decide +kernel
theorem dX4_readInto_1 : decode cX4_readInto 1 = .ok (.iconst 0, 1) := by decide +kernel
theorem dX4_readInto_2 : decode cX4_readInto 2 = .ok (.putfield 19, 3) := by decide +kernel
theorem dX4_readInto_5 : decode cX4_readInto 5 = .ok (.aload_n 1, 1) := by decide +kernel
theorem dX4_readInto_6 : decode cX4_readInto 6 = .ok (.iconst 0, 1) := by decide +kernel
theorem dX4_readInto_7 : decode cX4_readInto 7 = .ok (.putfield 24, 3) := by decide +kernel
theorem dX4_readInto_10 : decode cX4_readInto 10 = .ok (.aload_n 0, 1) := by decide +kernel
theorem dX4_readInto_11 : decode cX4_readInto 11 = .ok (.iconst 0, 1) := by decide +kernel
theorem dX4_readInto_12 : decode cX4_readInto 12 = .ok (.putfield 27, 3) := by decide +kernel
theorem dX4_readInto_15 : decode cX4_readInto 15 = .ok (.iconst 0, 1) := by decide +kernel
theorem dX4_readInto_16 : decode cX4_readInto 16 = .ok (.istore_n 2, 1) := by decide +kernel
theorem dX4_readInto_17 : decode cX4_readInto 17 = .ok (.iload_n 2, 1) := by decide +kernel
theorem dX4_readInto_18 : decode cX4_readInto 18 = .ok (.sipush 200, 3) := by decide +kernel
theorem dX4_readInto_21 : decode cX4_readInto 21 = .ok (.if_icmp .ge 35, 3) := by decide +kernel
theorem dX4_readInto_24 : decode cX4_readInto 24 = .ok (.aload_n 0, 1) := by decide +kernel
theorem dX4_readInto_25 : decode cX4_readInto 25 = .ok (.getfield 27, 3) := by decide +kernel
theorem dX4_readInto_28 : decode cX4_readInto 28 = .ok (.aload_n 0, 1) := by decide +kernel
theorem dX4_readInto_29 : decode cX4_readInto 29 = .ok (.getfield 15, 3) := by decide +kernel
theorem dX4_readInto_32 : decode cX4_readInto 32 = .ok (.if_icmp .ge 24, 3) := by decide +kernel
theorem dX4_readInto_35 : decode cX4_readInto 35 = .ok (.aload_n 0, 1) := by decide +kernel
theorem dX4_readInto_36 : decode cX4_readInto 36 = .ok (.getfield 27, 3) := by decide +kernel
theorem dX4_readInto_39 : decode cX4_readInto 39 = .ok (.istore_n 3, 1) := by decide +kernel
theorem dX4_readInto_40 : decode cX4_readInto 40 = .ok (.aload_n 0, 1) := by decide +kernel
theorem dX4_readInto_41 : decode cX4_readInto 41 = .ok (.aload_n 1, 1) := by decide +kernel
theorem dX4_readInto_42 : decode cX4_readInto 42 = .ok (.invokevirtual 30, 3) := by decide +kernel
theorem dX4_readInto_45 : decode cX4_readInto 45 = .ok (.ifCond .ne 5, 3) := by decide +kernel
theorem dX4_readInto_48 : decode cX4_readInto 48 = .ok (.iload_n 3, 1) := by decide +kernel
theorem dX4_readInto_49 : decode cX4_readInto 49 = .ok (.ireturn, 1) := by decide +kernel
theorem dX4_readInto_50 : decode cX4_readInto 50 = .ok (.iinc 2 1, 3) := by decide +kernel
theorem dX4_readInto_53 : decode cX4_readInto 53 = .ok (.goto (-36), 3) := by decide +kernel
theorem dX4_readInto_56 : decode cX4_readInto 56 = .ok (.bipush (-4), 2) := by decide +kernel
theorem dX4_readInto_58 : decode cX4_readInto 58 = .ok (.ireturn, 1) := by decide +kernel
theorem dX4_readItem_0 : decode cX4_readItem 0 = .ok (.aload_n 0, 1) := by decide +kernel
theorem dX4_readItem_1 : decode cX4_readItem 1 = .ok (.bipush 110, 2) := by decide +kernel
theorem dX4_readItem_3 : decode cX4_readItem 3 = .ok (.invokevirtual 34, 3) := by decide +kernel
theorem dX4_readItem_6 : decode cX4_readItem 6 = .ok (.ifCond .eq 9, 3) := by decide +kernel
theorem dX4_readItem_9 : decode cX4_readItem 9 = .ok (.aload_n 0, 1) := by decide +kernel
theorem dX4_readItem_10 : decode cX4_readItem 10 = .ok (.aload_n 1, 1) := by decide +kernel
theorem dX4_readItem_11 : decode cX4_readItem 11 = .ok (.invokevirtual 38, 3) := by decide +kernel
theorem dX4_readItem_14 : decode cX4_readItem 14 = .ok (.ireturn, 1) := by decide +kernel
theorem dX4_readItem_15 : decode cX4_readItem 15 = .ok (.aload_n 0, 1) := by decide +kernel
theorem dX4_readItem_16 : decode cX4_readItem 16 = .ok (.bipush 109, 2) := by decide +kernel
theorem dX4_readItem_18 : decode cX4_readItem 18 = .ok (.invokevirtual 34, 3) := by decide +kernel
theorem dX4_readItem_21 : decode cX4_readItem 21 = .ok (.ifCond .eq 15, 3) := by decide +kernel
theorem dX4_readItem_24 : decode cX4_readItem 24 = .ok (.aload_n 0, 1) := by decide +kernel
theorem dX4_readItem_25 : decode cX4_readItem 25 = .ok (.aload_n 1, 1) := by decide +kernel
theorem dX4_readItem_26 : decode cX4_readItem 26 = .ok (.invokevirtual 41, 3) := by decide +kernel
theorem dX4_readItem_29 : decode cX4_readItem 29 = .ok (.ifCond .eq 7, 3) := by decide +kernel
theorem dX4_readItem_32 : decode cX4_readItem 32 = .ok (.iconst 1, 1) := by decide +kernel
theorem dX4_readItem_33 : decode cX4_readItem 33 = .ok (.goto 4, 3) := by decide +kernel
theorem dX4_readItem_36 : decode cX4_readItem 36 = .ok (.iconst 0, 1) := by decide +kernel
theorem dX4_readItem_37 : decode cX4_readItem 37 = .ok (.ireturn, 1) := by decide +kernel
theorem dX4_readNote_0 : decode cX4_readNote 0 = .ok (.aload_n 0, 1) := by decide +kernel
theorem dX4_readNote_1 : decode cX4_readNote 1 = .ok (.invokevirtual 44, 3) := by decide +kernel
theorem dX4_readNote_4 : decode cX4_readNote 4 = .ok (.istore_n 2, 1) := by decide +kernel
theorem dX4_readNote_5 : decode cX4_readNote 5 = .ok (.aload_n 0, 1) := by decide +kernel
theorem dX4_readNote_6 : decode cX4_readNote 6 = .ok (.bipush 44, 2) := by decide +kernel
theorem dX4_readNote_8 : decode cX4_readNote 8 = .ok (.invokevirtual 34, 3) := by decide +kernel
theorem dX4_readNote_11 : decode cX4_readNote 11 = .ok (.ifCond .ne 5, 3) := by decide +kernel
theorem dX4_readNote_14 : decode cX4_readNote 14 = .ok (.iconst 0, 1) := by decide +kernel
theorem dX4_readNote_15 : decode cX4_readNote 15 = .ok (.ireturn, 1) := by decide +kernel
theorem dX4_readNote_16 : decode cX4_readNote 16 = .ok (.aload_n 0, 1) := by decide +kernel
theorem dX4_readNote_17 : decode cX4_readNote 17 = .ok (.invokevirtual 44, 3) := by decide +kernel
theorem dX4_readNote_20 : decode cX4_readNote 20 = .ok (.istore_n 3, 1) := by decide +kernel
theorem dX4_readNote_21 : decode cX4_readNote 21 = .ok (.aload_n 0, 1) := by decide +kernel
theorem dX4_readNote_22 : decode cX4_readNote 22 = .ok (.bipush 59, 2) := by decide +kernel
theorem dX4_readNote_24 : decode cX4_readNote 24 = .ok (.invokevirtual 34, 3) := by decide +kernel
theorem dX4_readNote_27 : decode cX4_readNote 27 = .ok (.ifCond .eq 23, 3) := by decide +kernel
theorem dX4_readNote_30 : decode cX4_readNote 30 = .ok (.iload_n 2, 1) := by decide +kernel
theorem dX4_readNote_31 : decode cX4_readNote 31 = .ok (.iload_n 3, 1) := by decide +kernel
theorem dX4_readNote_32 : decode cX4_readNote 32 = .ok (.invokestatic 48, 3) := by decide +kernel
theorem dX4_readNote_35 : decode cX4_readNote 35 = .ok (.ifCond .eq 15, 3) := by decide +kernel
theorem dX4_readNote_38 : decode cX4_readNote 38 = .ok (.aload_n 1, 1) := by decide +kernel
theorem dX4_readNote_39 : decode cX4_readNote 39 = .ok (.iload_n 2, 1) := by decide +kernel
theorem dX4_readNote_40 : decode cX4_readNote 40 = .ok (.iload_n 3, 1) := by decide +kernel
theorem dX4_readNote_41 : decode cX4_readNote 41 = .ok (.invokestatic 52, 3) := by decide +kernel
theorem dX4_readNote_44 : decode cX4_readNote 44 = .ok (.invokevirtual 56, 3) := by decide +kernel
theorem dX4_readNote_47 : decode cX4_readNote 47 = .ok (.ifCond .lt 5, 3) := by decide +kernel
theorem dX4_readNote_50 : decode cX4_readNote 50 = .ok (.iconst 0, 1) := by decide +kernel
theorem dX4_readNote_51 : decode cX4_readNote 51 = .ok (.ireturn, 1) := by decide +kernel
theorem dX4_readNote_52 : decode cX4_readNote 52 = .ok (.aload_n 1, 1) := by decide +kernel
theorem dX4_readNote_53 : decode cX4_readNote 53 = .ok (.iload_n 2, 1) := by decide +kernel
theorem dX4_readNote_54 : decode cX4_readNote 54 = .ok (.iload_n 3, 1) := by decide +kernel
theorem dX4_readNote_55 : decode cX4_readNote 55 = .ok (.invokestatic 52, 3) := by decide +kernel
theorem dX4_readNote_58 : decode cX4_readNote 58 = .ok (.invokevirtual 60, 3) := by decide +kernel
theorem dX4_readNote_61 : decode cX4_readNote 61 = .ok (.ifCond .lt 7, 3) := by decide +kernel
theorem dX4_readNote_64 : decode cX4_readNote 64 = .ok (.iconst 1, 1) := by decide +kernel
theorem dX4_readNote_65 : decode cX4_readNote 65 = .ok (.goto 4, 3) := by decide +kernel
theorem dX4_readNote_68 : decode cX4_readNote 68 = .ok (.iconst 0, 1) := by decide +kernel
theorem dX4_readNote_69 : decode cX4_readNote 69 = .ok (.ireturn, 1) := by decide +kernel
theorem dX4_readManner_0 : decode cX4_readManner 0 = .ok (.aload_n 0, 1) := by decide +kernel
theorem dX4_readManner_1 : decode cX4_readManner 1 = .ok (.invokevirtual 44, 3) := by decide +kernel
theorem dX4_readManner_4 : decode cX4_readManner 4 = .ok (.istore_n 2, 1) := by decide +kernel
theorem dX4_readManner_5 : decode cX4_readManner 5 = .ok (.aload_n 0, 1) := by decide +kernel
theorem dX4_readManner_6 : decode cX4_readManner 6 = .ok (.bipush 59, 2) := by decide +kernel
theorem dX4_readManner_8 : decode cX4_readManner 8 = .ok (.invokevirtual 34, 3) := by decide +kernel
theorem dX4_readManner_11 : decode cX4_readManner 11 = .ok (.ifCond .eq 12, 3) := by decide +kernel
theorem dX4_readManner_14 : decode cX4_readManner 14 = .ok (.iload_n 2, 1) := by decide +kernel
theorem dX4_readManner_15 : decode cX4_readManner 15 = .ok (.ifCond .lt 8, 3) := by decide +kernel
theorem dX4_readManner_18 : decode cX4_readManner 18 = .ok (.iload_n 2, 1) := by decide +kernel
theorem dX4_readManner_19 : decode cX4_readManner 19 = .ok (.iconst 2, 1) := by decide +kernel
theorem dX4_readManner_20 : decode cX4_readManner 20 = .ok (.if_icmp .le 5, 3) := by decide +kernel
theorem dX4_readManner_23 : decode cX4_readManner 23 = .ok (.iconst 0, 1) := by decide +kernel
theorem dX4_readManner_24 : decode cX4_readManner 24 = .ok (.ireturn, 1) := by decide +kernel
theorem dX4_readManner_25 : decode cX4_readManner 25 = .ok (.aload_n 1, 1) := by decide +kernel
theorem dX4_readManner_26 : decode cX4_readManner 26 = .ok (.iload_n 2, 1) := by decide +kernel
theorem dX4_readManner_27 : decode cX4_readManner 27 = .ok (.putfield 24, 3) := by decide +kernel
theorem dX4_readManner_30 : decode cX4_readManner 30 = .ok (.iconst 1, 1) := by decide +kernel
theorem dX4_readManner_31 : decode cX4_readManner 31 = .ok (.ireturn, 1) := by decide +kernel
theorem dX4_readNumber_0 : decode cX4_readNumber 0 = .ok (.bipush (-4), 2) := by decide +kernel
theorem dX4_readNumber_2 : decode cX4_readNumber 2 = .ok (.istore_n 1, 1) := by decide +kernel
theorem dX4_readNumber_3 : decode cX4_readNumber 3 = .ok (.iconst 0, 1) := by decide +kernel
theorem dX4_readNumber_4 : decode cX4_readNumber 4 = .ok (.istore_n 2, 1) := by decide +kernel
theorem dX4_readNumber_5 : decode cX4_readNumber 5 = .ok (.iload_n 2, 1) := by decide +kernel
theorem dX4_readNumber_6 : decode cX4_readNumber 6 = .ok (.iconst 2, 1) := by decide +kernel
theorem dX4_readNumber_7 : decode cX4_readNumber 7 = .ok (.if_icmp .ge 48, 3) := by decide +kernel
theorem dX4_readNumber_10 : decode cX4_readNumber 10 = .ok (.aload_n 0, 1) := by decide +kernel
theorem dX4_readNumber_11 : decode cX4_readNumber 11 = .ok (.invokevirtual 63, 3) := by decide +kernel
theorem dX4_readNumber_14 : decode cX4_readNumber 14 = .ok (.ifCond .eq 41, 3) := by decide +kernel
theorem dX4_readNumber_17 : decode cX4_readNumber 17 = .ok (.iload_n 1, 1) := by decide +kernel
theorem dX4_readNumber_18 : decode cX4_readNumber 18 = .ok (.iconst 0, 1) := by decide +kernel
theorem dX4_readNumber_19 : decode cX4_readNumber 19 = .ok (.invokestatic 67, 3) := by decide +kernel
theorem dX4_readNumber_22 : decode cX4_readNumber 22 = .ok (.bipush 10, 2) := by decide +kernel
theorem dX4_readNumber_24 : decode cX4_readNumber 24 = .ok (.imul, 1) := by decide +kernel
theorem dX4_readNumber_25 : decode cX4_readNumber 25 = .ok (.aload_n 0, 1) := by decide +kernel
theorem dX4_readNumber_26 : decode cX4_readNumber 26 = .ok (.getfield 9, 3) := by decide +kernel
theorem dX4_readNumber_29 : decode cX4_readNumber 29 = .ok (.aload_n 0, 1) := by decide +kernel
theorem dX4_readNumber_30 : decode cX4_readNumber 30 = .ok (.getfield 27, 3) := by decide +kernel
theorem dX4_readNumber_33 : decode cX4_readNumber 33 = .ok (.iaload, 1) := by decide +kernel
theorem dX4_readNumber_34 : decode cX4_readNumber 34 = .ok (.iadd, 1) := by decide +kernel
theorem dX4_readNumber_35 : decode cX4_readNumber 35 = .ok (.bipush 48, 2) := by decide +kernel
theorem dX4_readNumber_37 : decode cX4_readNumber 37 = .ok (.isub, 1) := by decide +kernel
theorem dX4_readNumber_38 : decode cX4_readNumber 38 = .ok (.istore_n 1, 1) := by decide +kernel
theorem dX4_readNumber_39 : decode cX4_readNumber 39 = .ok (.aload_n 0, 1) := by decide +kernel
theorem dX4_readNumber_40 : decode cX4_readNumber 40 = .ok (.dup, 1) := by decide +kernel
theorem dX4_readNumber_41 : decode cX4_readNumber 41 = .ok (.getfield 27, 3) := by decide +kernel
theorem dX4_readNumber_44 : decode cX4_readNumber 44 = .ok (.iconst 1, 1) := by decide +kernel
theorem dX4_readNumber_45 : decode cX4_readNumber 45 = .ok (.iadd, 1) := by decide +kernel
theorem dX4_readNumber_46 : decode cX4_readNumber 46 = .ok (.putfield 27, 3) := by decide +kernel
theorem dX4_readNumber_49 : decode cX4_readNumber 49 = .ok (.iinc 2 1, 3) := by decide +kernel
theorem dX4_readNumber_52 : decode cX4_readNumber 52 = .ok (.goto (-47), 3) := by decide +kernel
theorem dX4_readNumber_55 : decode cX4_readNumber 55 = .ok (.iload_n 1, 1) := by decide +kernel
theorem dX4_readNumber_56 : decode cX4_readNumber 56 = .ok (.ireturn, 1) := by decide +kernel
theorem dX4_isFigure_0 : decode cX4_isFigure 0 = .ok (.aload_n 0, 1) := by decide +kernel
theorem dX4_isFigure_1 : decode cX4_isFigure 1 = .ok (.getfield 27, 3) := by decide +kernel
theorem dX4_isFigure_4 : decode cX4_isFigure 4 = .ok (.aload_n 0, 1) := by decide +kernel
theorem dX4_isFigure_5 : decode cX4_isFigure 5 = .ok (.getfield 15, 3) := by decide +kernel
theorem dX4_isFigure_8 : decode cX4_isFigure 8 = .ok (.if_icmp .ge 35, 3) := by decide +kernel
theorem dX4_isFigure_11 : decode cX4_isFigure 11 = .ok (.aload_n 0, 1) := by decide +kernel
theorem dX4_isFigure_12 : decode cX4_isFigure 12 = .ok (.getfield 9, 3) := by decide +kernel
theorem dX4_isFigure_15 : decode cX4_isFigure 15 = .ok (.aload_n 0, 1) := by decide +kernel
theorem dX4_isFigure_16 : decode cX4_isFigure 16 = .ok (.getfield 27, 3) := by decide +kernel
theorem dX4_isFigure_19 : decode cX4_isFigure 19 = .ok (.iaload, 1) := by decide +kernel
theorem dX4_isFigure_20 : decode cX4_isFigure 20 = .ok (.bipush 48, 2) := by decide +kernel
theorem dX4_isFigure_22 : decode cX4_isFigure 22 = .ok (.if_icmp .lt 21, 3) := by decide +kernel
theorem dX4_isFigure_25 : decode cX4_isFigure 25 = .ok (.aload_n 0, 1) := by decide +kernel
theorem dX4_isFigure_26 : decode cX4_isFigure 26 = .ok (.getfield 9, 3) := by decide +kernel
theorem dX4_isFigure_29 : decode cX4_isFigure 29 = .ok (.aload_n 0, 1) := by decide +kernel
theorem dX4_isFigure_30 : decode cX4_isFigure 30 = .ok (.getfield 27, 3) := by decide +kernel
theorem dX4_isFigure_33 : decode cX4_isFigure 33 = .ok (.iaload, 1) := by decide +kernel
theorem dX4_isFigure_34 : decode cX4_isFigure 34 = .ok (.bipush 57, 2) := by decide +kernel
theorem dX4_isFigure_36 : decode cX4_isFigure 36 = .ok (.if_icmp .gt 7, 3) := by decide +kernel
theorem dX4_isFigure_39 : decode cX4_isFigure 39 = .ok (.iconst 1, 1) := by decide +kernel
theorem dX4_isFigure_40 : decode cX4_isFigure 40 = .ok (.goto 4, 3) := by decide +kernel
theorem dX4_isFigure_43 : decode cX4_isFigure 43 = .ok (.iconst 0, 1) := by decide +kernel
theorem dX4_isFigure_44 : decode cX4_isFigure 44 = .ok (.ireturn, 1) := by decide +kernel
theorem dX4_skip_0 : decode cX4_skip 0 = .ok (.aload_n 0, 1) := by decide +kernel
theorem dX4_skip_1 : decode cX4_skip 1 = .ok (.getfield 27, 3) := by decide +kernel
theorem dX4_skip_4 : decode cX4_skip 4 = .ok (.aload_n 0, 1) := by decide +kernel
theorem dX4_skip_5 : decode cX4_skip 5 = .ok (.getfield 15, 3) := by decide +kernel
theorem dX4_skip_8 : decode cX4_skip 8 = .ok (.if_icmp .ge 16, 3) := by decide +kernel
theorem dX4_skip_11 : decode cX4_skip 11 = .ok (.aload_n 0, 1) := by decide +kernel
theorem dX4_skip_12 : decode cX4_skip 12 = .ok (.getfield 9, 3) := by decide +kernel
theorem dX4_skip_15 : decode cX4_skip 15 = .ok (.aload_n 0, 1) := by decide +kernel
theorem dX4_skip_16 : decode cX4_skip 16 = .ok (.getfield 27, 3) := by decide +kernel
theorem dX4_skip_19 : decode cX4_skip 19 = .ok (.iaload, 1) := by decide +kernel
theorem dX4_skip_20 : decode cX4_skip 20 = .ok (.iload_n 1, 1) := by decide +kernel
theorem dX4_skip_21 : decode cX4_skip 21 = .ok (.if_icmp .eq 5, 3) := by decide +kernel
theorem dX4_skip_24 : decode cX4_skip 24 = .ok (.iconst 0, 1) := by decide +kernel
theorem dX4_skip_25 : decode cX4_skip 25 = .ok (.ireturn, 1) := by decide +kernel
theorem dX4_skip_26 : decode cX4_skip 26 = .ok (.aload_n 0, 1) := by decide +kernel
theorem dX4_skip_27 : decode cX4_skip 27 = .ok (.dup, 1) := by decide +kernel
theorem dX4_skip_28 : decode cX4_skip 28 = .ok (.getfield 27, 3) := by decide +kernel
theorem dX4_skip_31 : decode cX4_skip 31 = .ok (.iconst 1, 1) := by decide +kernel
theorem dX4_skip_32 : decode cX4_skip 32 = .ok (.iadd, 1) := by decide +kernel
theorem dX4_skip_33 : decode cX4_skip 33 = .ok (.putfield 27, 3) := by decide +kernel
theorem dX4_skip_36 : decode cX4_skip 36 = .ok (.iconst 1, 1) := by decide +kernel
theorem dX4_skip_37 : decode cX4_skip 37 = .ok (.ireturn, 1) := by decide +kernel
theorem dX5_init_0 : decode cX5_init 0 = .ok (.aload_n 0, 1) := by decide +kernel
theorem dX5_init_1 : decode cX5_init 1 = .ok (.invokespecial 3, 3) := by decide +kernel
theorem dX5_init_4 : decode cX5_init 4 = .ok (.aload_n 0, 1) := by decide +kernel
theorem dX5_init_5 : decode cX5_init 5 = .ok (.bipush 14, 2) := by decide +kernel
theorem dX5_init_7 : decode cX5_init 7 = .ok (.newarray .int, 2) := by decide +kernel
theorem dX5_init_9 : decode cX5_init 9 = .ok (.putfield 9, 3) := by decide +kernel
theorem dX5_init_12 : decode cX5_init 12 = .ok (.aload_n 0, 1) := by decide +kernel
theorem dX5_init_13 : decode cX5_init 13 = .ok (.bipush 14, 2) := by decide +kernel
theorem dX5_init_15 : decode cX5_init 15 = .ok (.newarray .int, 2) := by decide +kernel
theorem dX5_init_17 : decode cX5_init 17 = .ok (.putfield 15, 3) := by decide +kernel
theorem dX5_init_20 : decode cX5_init 20 = .ok (.aload_n 0, 1) := by decide +kernel
theorem dX5_init_21 : decode cX5_init 21 = .ok (.sipush 240, 3) := by decide +kernel
theorem dX5_init_24 : decode cX5_init 24 = .ok (.newarray .int, 2) := by decide +kernel
theorem dX5_init_26 : decode cX5_init 26 = .ok (.putfield 18, 3) := by decide +kernel
theorem dX5_init_29 : decode cX5_init 29 = .ok (.aload_n 0, 1) := by decide +kernel
theorem dX5_init_30 : decode cX5_init 30 = .ok (.sipush 897, 3) := by decide +kernel
theorem dX5_init_33 : decode cX5_init 33 = .ok (.newarray .int, 2) := by decide +kernel
theorem dX5_init_35 : decode cX5_init 35 = .ok (.putfield 21, 3) := by decide +kernel
theorem dX5_init_38 : decode cX5_init 38 = .ok (.aload_n 0, 1) := by decide +kernel
theorem dX5_init_39 : decode cX5_init 39 = .ok (.sipush 897, 3) := by decide +kernel
theorem dX5_init_42 : decode cX5_init 42 = .ok (.newarray .int, 2) := by decide +kernel
theorem dX5_init_44 : decode cX5_init 44 = .ok (.putfield 24, 3) := by decide +kernel
theorem dX5_init_47 : decode cX5_init 47 = .ok (.aload_n 0, 1) := by decide +kernel
theorem dX5_init_48 : decode cX5_init 48 = .ok (.sipush 448, 3) := by decide +kernel
theorem dX5_init_51 : decode cX5_init 51 = .ok (.newarray .int, 2) := by decide +kernel
theorem dX5_init_53 : decode cX5_init 53 = .ok (.putfield 27, 3) := by decide +kernel
theorem dX5_init_56 : decode cX5_init 56 = .ok (.aload_n 0, 1) := by decide +kernel
theorem dX5_init_57 : decode cX5_init 57 = .ok (.sipush 448, 3) := by decide +kernel
theorem dX5_init_60 : decode cX5_init 60 = .ok (.newarray .int, 2) := by decide +kernel
theorem dX5_init_62 : decode cX5_init 62 = .ok (.putfield 30, 3) := by decide +kernel
theorem dX5_init_65 : decode cX5_init 65 = .ok (.aload_n 0, 1) := by decide +kernel
theorem dX5_init_66 : decode cX5_init 66 = .ok (.sipush 448, 3) := by decide +kernel
theorem dX5_init_69 : decode cX5_init 69 = .ok (.newarray .int, 2) := by decide +kernel
theorem dX5_init_71 : decode cX5_init 71 = .ok (.putfield 33, 3) := by decide +kernel
theorem dX5_init_74 : decode cX5_init 74 = .ok (.return_, 1) := by decide +kernel
theorem dX5_lookOver_0 : decode cX5_lookOver 0 = .ok (.aload_n 0, 1) := by decide +kernel
theorem dX5_lookOver_1 : decode cX5_lookOver 1 = .ok (.aload_n 1, 1) := by decide +kernel
theorem dX5_lookOver_2 : decode cX5_lookOver 2 = .ok (.getfield 36, 3) := by decide +kernel
theorem dX5_lookOver_5 : decode cX5_lookOver 5 = .ok (.putfield 42, 3) := by decide +kernel
theorem dX5_lookOver_8 : decode cX5_lookOver 8 = .ok (.aload_n 0, 1) := by decide +kernel
theorem dX5_lookOver_9 : decode cX5_lookOver 9 = .ok (.iload_n 2, 1) := by decide +kernel
theorem dX5_lookOver_10 : decode cX5_lookOver 10 = .ok (.aload_n 1, 1) := by decide +kernel
theorem dX5_lookOver_11 : decode cX5_lookOver 11 = .ok (.invokevirtual 43, 3) := by decide +kernel
theorem dX5_lookOver_14 : decode cX5_lookOver 14 = .ok (.iand, 1) := by decide +kernel
theorem dX5_lookOver_15 : decode cX5_lookOver 15 = .ok (.putfield 47, 3) := by decide +kernel
theorem dX5_lookOver_18 : decode cX5_lookOver 18 = .ok (.aload_n 0, 1) := by decide +kernel
theorem dX5_lookOver_19 : decode cX5_lookOver 19 = .ok (.getfield 18, 3) := by decide +kernel
theorem dX5_lookOver_22 : decode cX5_lookOver 22 = .ok (.bipush (-4), 2) := by decide +kernel
theorem dX5_lookOver_24 : decode cX5_lookOver 24 = .ok (.invokestatic 50, 3) := by decide +kernel
theorem dX5_lookOver_27 : decode cX5_lookOver 27 = .ok (.iconst 0, 1) := by decide +kernel
theorem dX5_lookOver_28 : decode cX5_lookOver 28 = .ok (.istore_n 3, 1) := by decide +kernel
theorem dX5_lookOver_29 : decode cX5_lookOver 29 = .ok (.iload_n 3, 1) := by decide +kernel
theorem dX5_lookOver_30 : decode cX5_lookOver 30 = .ok (.aload_n 1, 1) := by decide +kernel
theorem dX5_lookOver_31 : decode cX5_lookOver 31 = .ok (.getfield 56, 3) := by decide +kernel
theorem dX5_lookOver_34 : decode cX5_lookOver 34 = .ok (.if_icmp .ge 63, 3) := by decide +kernel
theorem dX5_lookOver_37 : decode cX5_lookOver 37 = .ok (.aload_n 0, 1) := by decide +kernel
theorem dX5_lookOver_38 : decode cX5_lookOver 38 = .ok (.getfield 9, 3) := by decide +kernel
theorem dX5_lookOver_41 : decode cX5_lookOver 41 = .ok (.iload_n 3, 1) := by decide +kernel
theorem dX5_lookOver_42 : decode cX5_lookOver 42 = .ok (.aload_n 1, 1) := by decide +kernel
theorem dX5_lookOver_43 : decode cX5_lookOver 43 = .ok (.iload_n 3, 1) := by decide +kernel
theorem dX5_lookOver_44 : decode cX5_lookOver 44 = .ok (.invokevirtual 59, 3) := by decide +kernel
theorem dX5_lookOver_47 : decode cX5_lookOver 47 = .ok (.iastore, 1) := by decide +kernel
theorem dX5_lookOver_48 : decode cX5_lookOver 48 = .ok (.aload_n 0, 1) := by decide +kernel
theorem dX5_lookOver_49 : decode cX5_lookOver 49 = .ok (.getfield 15, 3) := by decide +kernel
theorem dX5_lookOver_52 : decode cX5_lookOver 52 = .ok (.iload_n 3, 1) := by decide +kernel
theorem dX5_lookOver_53 : decode cX5_lookOver 53 = .ok (.aload_n 1, 1) := by decide +kernel
theorem dX5_lookOver_54 : decode cX5_lookOver 54 = .ok (.iload_n 3, 1) := by decide +kernel
theorem dX5_lookOver_55 : decode cX5_lookOver 55 = .ok (.invokevirtual 63, 3) := by decide +kernel
theorem dX5_lookOver_58 : decode cX5_lookOver 58 = .ok (.iastore, 1) := by decide +kernel
theorem dX5_lookOver_59 : decode cX5_lookOver 59 = .ok (.aload_n 0, 1) := by decide +kernel
theorem dX5_lookOver_60 : decode cX5_lookOver 60 = .ok (.getfield 47, 3) := by decide +kernel
theorem dX5_lookOver_63 : decode cX5_lookOver 63 = .ok (.iload_n 3, 1) := by decide +kernel
theorem dX5_lookOver_64 : decode cX5_lookOver 64 = .ok (.invokestatic 66, 3) := by decide +kernel
theorem dX5_lookOver_67 : decode cX5_lookOver 67 = .ok (.ifCond .eq 24, 3) := by decide +kernel
theorem dX5_lookOver_70 : decode cX5_lookOver 70 = .ok (.aload_n 0, 1) := by decide +kernel
theorem dX5_lookOver_71 : decode cX5_lookOver 71 = .ok (.getfield 18, 3) := by decide +kernel
theorem dX5_lookOver_74 : decode cX5_lookOver 74 = .ok (.aload_n 0, 1) := by decide +kernel
theorem dX5_lookOver_75 : decode cX5_lookOver 75 = .ok (.getfield 9, 3) := by decide +kernel
theorem dX5_lookOver_78 : decode cX5_lookOver 78 = .ok (.iload_n 3, 1) := by decide +kernel
theorem dX5_lookOver_79 : decode cX5_lookOver 79 = .ok (.iaload, 1) := by decide +kernel
theorem dX5_lookOver_80 : decode cX5_lookOver 80 = .ok (.aload_n 0, 1) := by decide +kernel
theorem dX5_lookOver_81 : decode cX5_lookOver 81 = .ok (.getfield 15, 3) := by decide +kernel
theorem dX5_lookOver_84 : decode cX5_lookOver 84 = .ok (.iload_n 3, 1) := by decide +kernel
theorem dX5_lookOver_85 : decode cX5_lookOver 85 = .ok (.iaload, 1) := by decide +kernel
theorem dX5_lookOver_86 : decode cX5_lookOver 86 = .ok (.invokestatic 70, 3) := by decide +kernel
theorem dX5_lookOver_89 : decode cX5_lookOver 89 = .ok (.iload_n 3, 1) := by decide +kernel
theorem dX5_lookOver_90 : decode cX5_lookOver 90 = .ok (.iastore, 1) := by decide +kernel
theorem dX5_lookOver_91 : decode cX5_lookOver 91 = .ok (.iinc 3 1, 3) := by decide +kernel
theorem dX5_lookOver_94 : decode cX5_lookOver 94 = .ok (.goto (-65), 3) := by decide +kernel
theorem dX5_lookOver_97 : decode cX5_lookOver 97 = .ok (.aload_n 0, 1) := by decide +kernel
theorem dX5_lookOver_98 : decode cX5_lookOver 98 = .ok (.invokevirtual 74, 3) := by decide +kernel
theorem dX5_lookOver_101 : decode cX5_lookOver 101 = .ok (.aload_n 0, 1) := by decide +kernel
theorem dX5_lookOver_102 : decode cX5_lookOver 102 = .ok (.invokevirtual 77, 3) := by decide +kernel
theorem dX5_lookOver_105 : decode cX5_lookOver 105 = .ok (.aload_n 0, 1) := by decide +kernel
theorem dX5_lookOver_106 : decode cX5_lookOver 106 = .ok (.invokevirtual 80, 3) := by decide +kernel
theorem dX5_lookOver_109 : decode cX5_lookOver 109 = .ok (.return_, 1) := by decide +kernel
theorem dX5_has_0 : decode cX5_has 0 = .ok (.iload_n 0, 1) := by decide +kernel
theorem dX5_has_1 : decode cX5_has 1 = .ok (.iload_n 1, 1) := by decide +kernel
theorem dX5_has_2 : decode cX5_has 2 = .ok (.ishr, 1) := by decide +kernel
theorem dX5_has_3 : decode cX5_has 3 = .ok (.iconst 1, 1) := by decide +kernel
theorem dX5_has_4 : decode cX5_has 4 = .ok (.iand, 1) := by decide +kernel
theorem dX5_has_5 : decode cX5_has 5 = .ok (.ifCond .eq 7, 3) := by decide +kernel
theorem dX5_has_8 : decode cX5_has 8 = .ok (.iconst 1, 1) := by decide +kernel
theorem dX5_has_9 : decode cX5_has 9 = .ok (.goto 4, 3) := by decide +kernel
theorem dX5_has_12 : decode cX5_has 12 = .ok (.iconst 0, 1) := by decide +kernel
theorem dX5_has_13 : decode cX5_has 13 = .ok (.ireturn, 1) := by decide +kernel
theorem dX5_hasTwo_0 : decode cX5_hasTwo 0 = .ok (.iload_n 0, 1) := by decide +kernel
theorem dX5_hasTwo_1 : decode cX5_hasTwo 1 = .ok (.iload_n 0, 1) := by decide +kernel
theorem dX5_hasTwo_2 : decode cX5_hasTwo 2 = .ok (.iconst 1, 1) := by decide +kernel
theorem dX5_hasTwo_3 : decode cX5_hasTwo 3 = .ok (.isub, 1) := by decide +kernel
theorem dX5_hasTwo_4 : decode cX5_hasTwo 4 = .ok (.iand, 1) := by decide +kernel
theorem dX5_hasTwo_5 : decode cX5_hasTwo 5 = .ok (.ifCond .eq 7, 3) := by decide +kernel
theorem dX5_hasTwo_8 : decode cX5_hasTwo 8 = .ok (.iconst 1, 1) := by decide +kernel
theorem dX5_hasTwo_9 : decode cX5_hasTwo 9 = .ok (.goto 4, 3) := by decide +kernel
theorem dX5_hasTwo_12 : decode cX5_hasTwo 12 = .ok (.iconst 0, 1) := by decide +kernel
theorem dX5_hasTwo_13 : decode cX5_hasTwo 13 = .ok (.ireturn, 1) := by decide +kernel
theorem dX5_shiftOf_0 : decode cX5_shiftOf 0 = .ok (.iload_n 0, 1) := by decide +kernel
theorem dX5_shiftOf_1 : decode cX5_shiftOf 1 = .ok (.bipush 19, 2) := by decide +kernel
theorem dX5_shiftOf_3 : decode cX5_shiftOf 3 = .ok (.iadd, 1) := by decide +kernel
theorem dX5_shiftOf_4 : decode cX5_shiftOf 4 = .ok (.bipush 23, 2) := by decide +kernel
theorem dX5_shiftOf_6 : decode cX5_shiftOf 6 = .ok (.imul, 1) := by decide +kernel
theorem dX5_shiftOf_7 : decode cX5_shiftOf 7 = .ok (.iload_n 1, 1) := by decide +kernel
theorem dX5_shiftOf_8 : decode cX5_shiftOf 8 = .ok (.iadd, 1) := by decide +kernel
theorem dX5_shiftOf_9 : decode cX5_shiftOf 9 = .ok (.bipush 11, 2) := by decide +kernel
theorem dX5_shiftOf_11 : decode cX5_shiftOf 11 = .ok (.iadd, 1) := by decide +kernel
theorem dX5_shiftOf_12 : decode cX5_shiftOf 12 = .ok (.ireturn, 1) := by decide +kernel
theorem dX5_timePart_0 : decode cX5_timePart 0 = .ok (.iload_n 0, 1) := by decide +kernel
theorem dX5_timePart_1 : decode cX5_timePart 1 = .ok (.bipush 23, 2) := by decide +kernel
theorem dX5_timePart_3 : decode cX5_timePart 3 = .ok (.idiv, 1) := by decide +kernel
theorem dX5_timePart_4 : decode cX5_timePart 4 = .ok (.bipush 19, 2) := by decide +kernel
theorem dX5_timePart_6 : decode cX5_timePart 6 = .ok (.isub, 1) := by decide +kernel
theorem dX5_timePart_7 : decode cX5_timePart 7 = .ok (.ireturn, 1) := by decide +kernel
theorem dX5_pitchPart_0 : decode cX5_pitchPart 0 = .ok (.iload_n 0, 1) := by decide +kernel
theorem dX5_pitchPart_1 : decode cX5_pitchPart 1 = .ok (.bipush 23, 2) := by decide +kernel
theorem dX5_pitchPart_3 : decode cX5_pitchPart 3 = .ok (.irem, 1) := by decide +kernel
theorem dX5_pitchPart_4 : decode cX5_pitchPart 4 = .ok (.bipush 11, 2) := by decide +kernel
theorem dX5_pitchPart_6 : decode cX5_pitchPart 6 = .ok (.isub, 1) := by decide +kernel
theorem dX5_pitchPart_7 : decode cX5_pitchPart 7 = .ok (.ireturn, 1) := by decide +kernel
theorem dX5_findLargests_0 : decode cX5_findLargests 0 = .ok (.aload_n 0, 1) := by decide +kernel
theorem dX5_findLargests_1 : decode cX5_findLargests 1 = .ok (.getfield 21, 3) := by decide +kernel
theorem dX5_findLargests_4 : decode cX5_findLargests 4 = .ok (.iconst 0, 1) := by decide +kernel
theorem dX5_findLargests_5 : decode cX5_findLargests 5 = .ok (.invokestatic 50, 3) := by decide +kernel
theorem dX5_findLargests_8 : decode cX5_findLargests 8 = .ok (.iconst 0, 1) := by decide +kernel
theorem dX5_findLargests_9 : decode cX5_findLargests 9 = .ok (.istore_n 1, 1) := by decide +kernel
theorem dX5_findLargests_10 : decode cX5_findLargests 10 = .ok (.iload_n 1, 1) := by decide +kernel
theorem dX5_findLargests_11 : decode cX5_findLargests 11 = .ok (.bipush 14, 2) := by decide +kernel
theorem dX5_findLargests_13 : decode cX5_findLargests 13 = .ok (.if_icmp .ge 51, 3) := by decide +kernel
theorem dX5_findLargests_16 : decode cX5_findLargests 16 = .ok (.iconst 0, 1) := by decide +kernel
theorem dX5_findLargests_17 : decode cX5_findLargests 17 = .ok (.istore_n 2, 1) := by decide +kernel
theorem dX5_findLargests_18 : decode cX5_findLargests 18 = .ok (.iload_n 2, 1) := by decide +kernel
theorem dX5_findLargests_19 : decode cX5_findLargests 19 = .ok (.bipush 14, 2) := by decide +kernel
theorem dX5_findLargests_21 : decode cX5_findLargests 21 = .ok (.if_icmp .ge 37, 3) := by decide +kernel
theorem dX5_findLargests_24 : decode cX5_findLargests 24 = .ok (.aload_n 0, 1) := by decide +kernel
theorem dX5_findLargests_25 : decode cX5_findLargests 25 = .ok (.getfield 47, 3) := by decide +kernel
theorem dX5_findLargests_28 : decode cX5_findLargests 28 = .ok (.iload_n 1, 1) := by decide +kernel
theorem dX5_findLargests_29 : decode cX5_findLargests 29 = .ok (.invokestatic 66, 3) := by decide +kernel
theorem dX5_findLargests_32 : decode cX5_findLargests 32 = .ok (.ifCond .eq 26, 3) := by decide +kernel
theorem dX5_findLargests_35 : decode cX5_findLargests 35 = .ok (.aload_n 0, 1) := by decide +kernel
theorem dX5_findLargests_36 : decode cX5_findLargests 36 = .ok (.getfield 47, 3) := by decide +kernel
theorem dX5_findLargests_39 : decode cX5_findLargests 39 = .ok (.iload_n 2, 1) := by decide +kernel
theorem dX5_findLargests_40 : decode cX5_findLargests 40 = .ok (.invokestatic 66, 3) := by decide +kernel
theorem dX5_findLargests_43 : decode cX5_findLargests 43 = .ok (.ifCond .eq 9, 3) := by decide +kernel
theorem dX5_findLargests_46 : decode cX5_findLargests 46 = .ok (.aload_n 0, 1) := by decide +kernel
theorem dX5_findLargests_47 : decode cX5_findLargests 47 = .ok (.iload_n 1, 1) := by decide +kernel
theorem dX5_findLargests_48 : decode cX5_findLargests 48 = .ok (.iload_n 2, 1) := by decide +kernel
theorem dX5_findLargests_49 : decode cX5_findLargests 49 = .ok (.invokevirtual 83, 3) := by decide +kernel
theorem dX5_findLargests_52 : decode cX5_findLargests 52 = .ok (.iinc 2 1, 3) := by decide +kernel
theorem dX5_findLargests_55 : decode cX5_findLargests 55 = .ok (.goto (-37), 3) := by decide +kernel
theorem dX5_findLargests_58 : decode cX5_findLargests 58 = .ok (.iinc 1 1, 3) := by decide +kernel
theorem dX5_findLargests_61 : decode cX5_findLargests 61 = .ok (.goto (-51), 3) := by decide +kernel
theorem dX5_findLargests_64 : decode cX5_findLargests 64 = .ok (.return_, 1) := by decide +kernel
theorem dX5_enterPair_0 : decode cX5_enterPair 0 = .ok (.aload_n 0, 1) := by decide +kernel
theorem dX5_enterPair_1 : decode cX5_enterPair 1 = .ok (.getfield 9, 3) := by decide +kernel
theorem dX5_enterPair_4 : decode cX5_enterPair 4 = .ok (.iload_n 2, 1) := by decide +kernel
theorem dX5_enterPair_5 : decode cX5_enterPair 5 = .ok (.iaload, 1) := by decide +kernel
theorem dX5_enterPair_6 : decode cX5_enterPair 6 = .ok (.aload_n 0, 1) := by decide +kernel
theorem dX5_enterPair_7 : decode cX5_enterPair 7 = .ok (.getfield 9, 3) := by decide +kernel
theorem dX5_enterPair_10 : decode cX5_enterPair 10 = .ok (.iload_n 1, 1) := by decide +kernel
theorem dX5_enterPair_11 : decode cX5_enterPair 11 = .ok (.iaload, 1) := by decide +kernel
theorem dX5_enterPair_12 : decode cX5_enterPair 12 = .ok (.isub, 1) := by decide +kernel
theorem dX5_enterPair_13 : decode cX5_enterPair 13 = .ok (.istore_n 3, 1) := by decide +kernel
theorem dX5_enterPair_14 : decode cX5_enterPair 14 = .ok (.aload_n 0, 1) := by decide +kernel
theorem dX5_enterPair_15 : decode cX5_enterPair 15 = .ok (.getfield 15, 3) := by decide +kernel
theorem dX5_enterPair_18 : decode cX5_enterPair 18 = .ok (.iload_n 2, 1) := by decide +kernel
theorem dX5_enterPair_19 : decode cX5_enterPair 19 = .ok (.iaload, 1) := by decide +kernel
theorem dX5_enterPair_20 : decode cX5_enterPair 20 = .ok (.aload_n 0, 1) := by decide +kernel
theorem dX5_enterPair_21 : decode cX5_enterPair 21 = .ok (.getfield 15, 3) := by decide +kernel
theorem dX5_enterPair_24 : decode cX5_enterPair 24 = .ok (.iload_n 1, 1) := by decide +kernel
theorem dX5_enterPair_25 : decode cX5_enterPair 25 = .ok (.iaload, 1) := by decide +kernel
theorem dX5_enterPair_26 : decode cX5_enterPair 26 = .ok (.isub, 1) := by decide +kernel
theorem dX5_enterPair_27 : decode cX5_enterPair 27 = .ok (.istore 4, 2) := by decide +kernel
theorem dX5_enterPair_29 : decode cX5_enterPair 29 = .ok (.aload_n 0, 1) := by decide +kernel
theorem dX5_enterPair_30 : decode cX5_enterPair 30 = .ok (.getfield 42, 3) := by decide +kernel
theorem dX5_enterPair_33 : decode cX5_enterPair 33 = .ok (.iconst 1, 1) := by decide +kernel
theorem dX5_enterPair_34 : decode cX5_enterPair 34 = .ok (.if_icmp .ne 17, 3) := by decide +kernel
theorem dX5_enterPair_37 : decode cX5_enterPair 37 = .ok (.aload_n 0, 1) := by decide +kernel
theorem dX5_enterPair_38 : decode cX5_enterPair 38 = .ok (.iload_n 1, 1) := by decide +kernel
theorem dX5_enterPair_39 : decode cX5_enterPair 39 = .ok (.iload_n 3, 1) := by decide +kernel
theorem dX5_enterPair_40 : decode cX5_enterPair 40 = .ok (.iload 4, 2) := by decide +kernel
theorem dX5_enterPair_42 : decode cX5_enterPair 42 = .ok (.bipush 12, 2) := by decide +kernel
theorem dX5_enterPair_44 : decode cX5_enterPair 44 = .ok (.invokestatic 87, 3) := by decide +kernel
theorem dX5_enterPair_47 : decode cX5_enterPair 47 = .ok (.invokevirtual 92, 3) := by decide +kernel
theorem dX5_enterPair_50 : decode cX5_enterPair 50 = .ok (.return_, 1) := by decide +kernel
theorem dX5_enterPair_51 : decode cX5_enterPair 51 = .ok (.aload_n 0, 1) := by decide +kernel
theorem dX5_enterPair_52 : decode cX5_enterPair 52 = .ok (.iload_n 1, 1) := by decide +kernel
theorem dX5_enterPair_53 : decode cX5_enterPair 53 = .ok (.iload_n 3, 1) := by decide +kernel
theorem dX5_enterPair_54 : decode cX5_enterPair 54 = .ok (.iload 4, 2) := by decide +kernel
theorem dX5_enterPair_56 : decode cX5_enterPair 56 = .ok (.invokevirtual 92, 3) := by decide +kernel
theorem dX5_enterPair_59 : decode cX5_enterPair 59 = .ok (.aload_n 0, 1) := by decide +kernel
theorem dX5_enterPair_60 : decode cX5_enterPair 60 = .ok (.getfield 42, 3) := by decide +kernel
theorem dX5_enterPair_63 : decode cX5_enterPair 63 = .ok (.iconst 2, 1) := by decide +kernel
theorem dX5_enterPair_64 : decode cX5_enterPair 64 = .ok (.if_icmp .ne 23, 3) := by decide +kernel
theorem dX5_enterPair_67 : decode cX5_enterPair 67 = .ok (.aload_n 0, 1) := by decide +kernel
theorem dX5_enterPair_68 : decode cX5_enterPair 68 = .ok (.iload_n 1, 1) := by decide +kernel
theorem dX5_enterPair_69 : decode cX5_enterPair 69 = .ok (.iload_n 3, 1) := by decide +kernel
theorem dX5_enterPair_70 : decode cX5_enterPair 70 = .ok (.iload 4, 2) := by decide +kernel
theorem dX5_enterPair_72 : decode cX5_enterPair 72 = .ok (.iconst 1, 1) := by decide +kernel
theorem dX5_enterPair_73 : decode cX5_enterPair 73 = .ok (.isub, 1) := by decide +kernel
theorem dX5_enterPair_74 : decode cX5_enterPair 74 = .ok (.invokevirtual 92, 3) := by decide +kernel
theorem dX5_enterPair_77 : decode cX5_enterPair 77 = .ok (.aload_n 0, 1) := by decide +kernel
theorem dX5_enterPair_78 : decode cX5_enterPair 78 = .ok (.iload_n 1, 1) := by decide +kernel
theorem dX5_enterPair_79 : decode cX5_enterPair 79 = .ok (.iload_n 3, 1) := by decide +kernel
theorem dX5_enterPair_80 : decode cX5_enterPair 80 = .ok (.iload 4, 2) := by decide +kernel
theorem dX5_enterPair_82 : decode cX5_enterPair 82 = .ok (.iconst 1, 1) := by decide +kernel
theorem dX5_enterPair_83 : decode cX5_enterPair 83 = .ok (.iadd, 1) := by decide +kernel
theorem dX5_enterPair_84 : decode cX5_enterPair 84 = .ok (.invokevirtual 92, 3) := by decide +kernel
theorem dX5_enterPair_87 : decode cX5_enterPair 87 = .ok (.return_, 1) := by decide +kernel
theorem dX5_enter_0 : decode cX5_enter 0 = .ok (.iload_n 2, 1) := by decide +kernel
theorem dX5_enter_1 : decode cX5_enter 1 = .ok (.iload_n 3, 1) := by decide +kernel
theorem dX5_enter_2 : decode cX5_enter 2 = .ok (.invokestatic 96, 3) := by decide +kernel
theorem dX5_enter_5 : decode cX5_enter 5 = .ok (.ifCond .eq 19, 3) := by decide +kernel
theorem dX5_enter_8 : decode cX5_enter 8 = .ok (.aload_n 0, 1) := by decide +kernel
theorem dX5_enter_9 : decode cX5_enter 9 = .ok (.getfield 21, 3) := by decide +kernel
theorem dX5_enter_12 : decode cX5_enter 12 = .ok (.iload_n 2, 1) := by decide +kernel
theorem dX5_enter_13 : decode cX5_enter 13 = .ok (.iload_n 3, 1) := by decide +kernel
theorem dX5_enter_14 : decode cX5_enter 14 = .ok (.invokestatic 99, 3) := by decide +kernel
theorem dX5_enter_17 : decode cX5_enter 17 = .ok (.dup2, 1) := by decide +kernel
theorem dX5_enter_18 : decode cX5_enter 18 = .ok (.iaload, 1) := by decide +kernel
theorem dX5_enter_19 : decode cX5_enter 19 = .ok (.iconst 1, 1) := by decide +kernel
theorem dX5_enter_20 : decode cX5_enter 20 = .ok (.iload_n 1, 1) := by decide +kernel
theorem dX5_enter_21 : decode cX5_enter 21 = .ok (.ishl, 1) := by decide +kernel
theorem dX5_enter_22 : decode cX5_enter 22 = .ok (.ior, 1) := by decide +kernel
theorem dX5_enter_23 : decode cX5_enter 23 = .ok (.iastore, 1) := by decide +kernel
theorem dX5_enter_24 : decode cX5_enter 24 = .ok (.return_, 1) := by decide +kernel
theorem dX5_isHeld_0 : decode cX5_isHeld 0 = .ok (.iload_n 0, 1) := by decide +kernel
theorem dX5_isHeld_1 : decode cX5_isHeld 1 = .ok (.bipush (-19), 2) := by decide +kernel
theorem dX5_isHeld_3 : decode cX5_isHeld 3 = .ok (.if_icmp .lt 25, 3) := by decide +kernel
theorem dX5_isHeld_6 : decode cX5_isHeld 6 = .ok (.iload_n 0, 1) := by decide +kernel
theorem dX5_isHeld_7 : decode cX5_isHeld 7 = .ok (.bipush 19, 2) := by decide +kernel
theorem dX5_isHeld_9 : decode cX5_isHeld 9 = .ok (.if_icmp .gt 19, 3) := by decide +kernel
theorem dX5_isHeld_12 : decode cX5_isHeld 12 = .ok (.iload_n 1, 1) := by decide +kernel
theorem dX5_isHeld_13 : decode cX5_isHeld 13 = .ok (.bipush (-11), 2) := by decide +kernel
theorem dX5_isHeld_15 : decode cX5_isHeld 15 = .ok (.if_icmp .lt 13, 3) := by decide +kernel
theorem dX5_isHeld_18 : decode cX5_isHeld 18 = .ok (.iload_n 1, 1) := by decide +kernel
theorem dX5_isHeld_19 : decode cX5_isHeld 19 = .ok (.bipush 11, 2) := by decide +kernel
theorem dX5_isHeld_21 : decode cX5_isHeld 21 = .ok (.if_icmp .gt 7, 3) := by decide +kernel
theorem dX5_isHeld_24 : decode cX5_isHeld 24 = .ok (.iconst 1, 1) := by decide +kernel
theorem dX5_isHeld_25 : decode cX5_isHeld 25 = .ok (.goto 4, 3) := by decide +kernel
theorem dX5_isHeld_28 : decode cX5_isHeld 28 = .ok (.iconst 0, 1) := by decide +kernel
theorem dX5_isHeld_29 : decode cX5_isHeld 29 = .ok (.ireturn, 1) := by decide +kernel
theorem dX5_findWideShifts_0 : decode cX5_findWideShifts 0 = .ok (.aload_n 0, 1) := by decide +kernel
theorem dX5_findWideShifts_1 : decode cX5_findWideShifts 1 = .ok (.iconst 0, 1) := by decide +kernel
theorem dX5_findWideShifts_2 : decode cX5_findWideShifts 2 = .ok (.putfield 102, 3) := by decide +kernel
theorem dX5_findWideShifts_5 : decode cX5_findWideShifts 5 = .ok (.iconst 0, 1) := by decide +kernel
theorem dX5_findWideShifts_6 : decode cX5_findWideShifts 6 = .ok (.istore_n 1, 1) := by decide +kernel
theorem dX5_findWideShifts_7 : decode cX5_findWideShifts 7 = .ok (.iload_n 1, 1) := by decide +kernel
theorem dX5_findWideShifts_8 : decode cX5_findWideShifts 8 = .ok (.sipush 897, 3) := by decide +kernel
theorem dX5_findWideShifts_11 : decode cX5_findWideShifts 11 = .ok (.if_icmp .ge 41, 3) := by decide +kernel
theorem dX5_findWideShifts_14 : decode cX5_findWideShifts 14 = .ok (.aload_n 0, 1) := by decide +kernel
theorem dX5_findWideShifts_15 : decode cX5_findWideShifts 15 = .ok (.getfield 21, 3) := by decide +kernel
theorem dX5_findWideShifts_18 : decode cX5_findWideShifts 18 = .ok (.iload_n 1, 1) := by decide +kernel
theorem dX5_findWideShifts_19 : decode cX5_findWideShifts 19 = .ok (.iaload, 1) := by decide +kernel
theorem dX5_findWideShifts_20 : decode cX5_findWideShifts 20 = .ok (.invokestatic 105, 3) := by decide +kernel
theorem dX5_findWideShifts_23 : decode cX5_findWideShifts 23 = .ok (.ifCond .eq 23, 3) := by decide +kernel
theorem dX5_findWideShifts_26 : decode cX5_findWideShifts 26 = .ok (.aload_n 0, 1) := by decide +kernel
theorem dX5_findWideShifts_27 : decode cX5_findWideShifts 27 = .ok (.getfield 24, 3) := by decide +kernel
theorem dX5_findWideShifts_30 : decode cX5_findWideShifts 30 = .ok (.aload_n 0, 1) := by decide +kernel
theorem dX5_findWideShifts_31 : decode cX5_findWideShifts 31 = .ok (.getfield 102, 3) := by decide +kernel
theorem dX5_findWideShifts_34 : decode cX5_findWideShifts 34 = .ok (.iload_n 1, 1) := by decide +kernel
theorem dX5_findWideShifts_35 : decode cX5_findWideShifts 35 = .ok (.iastore, 1) := by decide +kernel
theorem dX5_findWideShifts_36 : decode cX5_findWideShifts 36 = .ok (.aload_n 0, 1) := by decide +kernel
theorem dX5_findWideShifts_37 : decode cX5_findWideShifts 37 = .ok (.dup, 1) := by decide +kernel
theorem dX5_findWideShifts_38 : decode cX5_findWideShifts 38 = .ok (.getfield 102, 3) := by decide +kernel
theorem dX5_findWideShifts_41 : decode cX5_findWideShifts 41 = .ok (.iconst 1, 1) := by decide +kernel
theorem dX5_findWideShifts_42 : decode cX5_findWideShifts 42 = .ok (.iadd, 1) := by decide +kernel
theorem dX5_findWideShifts_43 : decode cX5_findWideShifts 43 = .ok (.putfield 102, 3) := by decide +kernel
theorem dX5_findWideShifts_46 : decode cX5_findWideShifts 46 = .ok (.iinc 1 1, 3) := by decide +kernel
theorem dX5_findWideShifts_49 : decode cX5_findWideShifts 49 = .ok (.goto (-42), 3) := by decide +kernel
theorem dX5_findWideShifts_52 : decode cX5_findWideShifts 52 = .ok (.return_, 1) := by decide +kernel
theorem dX5_findShapes_0 : decode cX5_findShapes 0 = .ok (.aload_n 0, 1) := by decide +kernel
theorem dX5_findShapes_1 : decode cX5_findShapes 1 = .ok (.iconst 0, 1) := by decide +kernel
theorem dX5_findShapes_2 : decode cX5_findShapes 2 = .ok (.putfield 109, 3) := by decide +kernel
theorem dX5_findShapes_5 : decode cX5_findShapes 5 = .ok (.iconst 0, 1) := by decide +kernel
theorem dX5_findShapes_6 : decode cX5_findShapes 6 = .ok (.istore_n 1, 1) := by decide +kernel
theorem dX5_findShapes_7 : decode cX5_findShapes 7 = .ok (.iload_n 1, 1) := by decide +kernel
theorem dX5_findShapes_8 : decode cX5_findShapes 8 = .ok (.aload_n 0, 1) := by decide +kernel
theorem dX5_findShapes_9 : decode cX5_findShapes 9 = .ok (.getfield 102, 3) := by decide +kernel
theorem dX5_findShapes_12 : decode cX5_findShapes 12 = .ok (.if_icmp .ge 79, 3) := by decide +kernel
theorem dX5_findShapes_15 : decode cX5_findShapes 15 = .ok (.aload_n 0, 1) := by decide +kernel
theorem dX5_findShapes_16 : decode cX5_findShapes 16 = .ok (.getfield 24, 3) := by decide +kernel
theorem dX5_findShapes_19 : decode cX5_findShapes 19 = .ok (.iload_n 1, 1) := by decide +kernel
theorem dX5_findShapes_20 : decode cX5_findShapes 20 = .ok (.iaload, 1) := by decide +kernel
theorem dX5_findShapes_21 : decode cX5_findShapes 21 = .ok (.istore_n 2, 1) := by decide +kernel
theorem dX5_findShapes_22 : decode cX5_findShapes 22 = .ok (.iload_n 2, 1) := by decide +kernel
theorem dX5_findShapes_23 : decode cX5_findShapes 23 = .ok (.sipush 448, 3) := by decide +kernel
theorem dX5_findShapes_26 : decode cX5_findShapes 26 = .ok (.if_icmp .le 59, 3) := by decide +kernel
theorem dX5_findShapes_29 : decode cX5_findShapes 29 = .ok (.aload_n 0, 1) := by decide +kernel
theorem dX5_findShapes_30 : decode cX5_findShapes 30 = .ok (.getfield 109, 3) := by decide +kernel
theorem dX5_findShapes_33 : decode cX5_findShapes 33 = .ok (.sipush 448, 3) := by decide +kernel
theorem dX5_findShapes_36 : decode cX5_findShapes 36 = .ok (.if_icmp .ge 49, 3) := by decide +kernel
theorem dX5_findShapes_39 : decode cX5_findShapes 39 = .ok (.aload_n 0, 1) := by decide +kernel
theorem dX5_findShapes_40 : decode cX5_findShapes 40 = .ok (.aload_n 0, 1) := by decide +kernel
theorem dX5_findShapes_41 : decode cX5_findShapes 41 = .ok (.getfield 21, 3) := by decide +kernel
theorem dX5_findShapes_44 : decode cX5_findShapes 44 = .ok (.iload_n 2, 1) := by decide +kernel
theorem dX5_findShapes_45 : decode cX5_findShapes 45 = .ok (.iaload, 1) := by decide +kernel
theorem dX5_findShapes_46 : decode cX5_findShapes 46 = .ok (.invokevirtual 112, 3) := by decide +kernel
theorem dX5_findShapes_49 : decode cX5_findShapes 49 = .ok (.ifCond .ne 36, 3) := by decide +kernel
theorem dX5_findShapes_52 : decode cX5_findShapes 52 = .ok (.aload_n 0, 1) := by decide +kernel
theorem dX5_findShapes_53 : decode cX5_findShapes 53 = .ok (.getfield 27, 3) := by decide +kernel
theorem dX5_findShapes_56 : decode cX5_findShapes 56 = .ok (.aload_n 0, 1) := by decide +kernel
theorem dX5_findShapes_57 : decode cX5_findShapes 57 = .ok (.getfield 109, 3) := by decide +kernel
theorem dX5_findShapes_60 : decode cX5_findShapes 60 = .ok (.aload_n 0, 1) := by decide +kernel
theorem dX5_findShapes_61 : decode cX5_findShapes 61 = .ok (.getfield 21, 3) := by decide +kernel
theorem dX5_findShapes_64 : decode cX5_findShapes 64 = .ok (.iload_n 2, 1) := by decide +kernel
theorem dX5_findShapes_65 : decode cX5_findShapes 65 = .ok (.iaload, 1) := by decide +kernel
theorem dX5_findShapes_66 : decode cX5_findShapes 66 = .ok (.iastore, 1) := by decide +kernel
theorem dX5_findShapes_67 : decode cX5_findShapes 67 = .ok (.aload_n 0, 1) := by decide +kernel
theorem dX5_findShapes_68 : decode cX5_findShapes 68 = .ok (.aload_n 0, 1) := by decide +kernel
theorem dX5_findShapes_69 : decode cX5_findShapes 69 = .ok (.getfield 109, 3) := by decide +kernel
theorem dX5_findShapes_72 : decode cX5_findShapes 72 = .ok (.invokevirtual 115, 3) := by decide +kernel
theorem dX5_findShapes_75 : decode cX5_findShapes 75 = .ok (.aload_n 0, 1) := by decide +kernel
theorem dX5_findShapes_76 : decode cX5_findShapes 76 = .ok (.dup, 1) := by decide +kernel
theorem dX5_findShapes_77 : decode cX5_findShapes 77 = .ok (.getfield 109, 3) := by decide +kernel
theorem dX5_findShapes_80 : decode cX5_findShapes 80 = .ok (.iconst 1, 1) := by decide +kernel
theorem dX5_findShapes_81 : decode cX5_findShapes 81 = .ok (.iadd, 1) := by decide +kernel
theorem dX5_findShapes_82 : decode cX5_findShapes 82 = .ok (.putfield 109, 3) := by decide +kernel
theorem dX5_findShapes_85 : decode cX5_findShapes 85 = .ok (.iinc 1 1, 3) := by decide +kernel
theorem dX5_findShapes_88 : decode cX5_findShapes 88 = .ok (.goto (-81), 3) := by decide +kernel
theorem dX5_findShapes_91 : decode cX5_findShapes 91 = .ok (.return_, 1) := by decide +kernel
theorem dX5_isShape_0 : decode cX5_isShape 0 = .ok (.iconst 0, 1) := by decide +kernel
theorem dX5_isShape_1 : decode cX5_isShape 1 = .ok (.istore_n 2, 1) := by decide +kernel
theorem dX5_isShape_2 : decode cX5_isShape 2 = .ok (.iload_n 2, 1) := by decide +kernel
theorem dX5_isShape_3 : decode cX5_isShape 3 = .ok (.aload_n 0, 1) := by decide +kernel
theorem dX5_isShape_4 : decode cX5_isShape 4 = .ok (.getfield 109, 3) := by decide +kernel
theorem dX5_isShape_7 : decode cX5_isShape 7 = .ok (.if_icmp .ge 21, 3) := by decide +kernel
theorem dX5_isShape_10 : decode cX5_isShape 10 = .ok (.aload_n 0, 1) := by decide +kernel
theorem dX5_isShape_11 : decode cX5_isShape 11 = .ok (.getfield 27, 3) := by decide +kernel
theorem dX5_isShape_14 : decode cX5_isShape 14 = .ok (.iload_n 2, 1) := by decide +kernel
theorem dX5_isShape_15 : decode cX5_isShape 15 = .ok (.iaload, 1) := by decide +kernel
theorem dX5_isShape_16 : decode cX5_isShape 16 = .ok (.iload_n 1, 1) := by decide +kernel
theorem dX5_isShape_17 : decode cX5_isShape 17 = .ok (.if_icmp .ne 5, 3) := by decide +kernel
theorem dX5_isShape_20 : decode cX5_isShape 20 = .ok (.iconst 1, 1) := by decide +kernel
theorem dX5_isShape_21 : decode cX5_isShape 21 = .ok (.ireturn, 1) := by decide +kernel
theorem dX5_isShape_22 : decode cX5_isShape 22 = .ok (.iinc 2 1, 3) := by decide +kernel
theorem dX5_isShape_25 : decode cX5_isShape 25 = .ok (.goto (-23), 3) := by decide +kernel
theorem dX5_isShape_28 : decode cX5_isShape 28 = .ok (.iconst 0, 1) := by decide +kernel
theorem dX5_isShape_29 : decode cX5_isShape 29 = .ok (.ireturn, 1) := by decide +kernel
theorem dX5_measureShape_0 : decode cX5_measureShape 0 = .ok (.aload_n 0, 1) := by decide +kernel
theorem dX5_measureShape_1 : decode cX5_measureShape 1 = .ok (.getfield 27, 3) := by decide +kernel
theorem dX5_measureShape_4 : decode cX5_measureShape 4 = .ok (.iload_n 1, 1) := by decide +kernel
theorem dX5_measureShape_5 : decode cX5_measureShape 5 = .ok (.iaload, 1) := by decide +kernel
theorem dX5_measureShape_6 : decode cX5_measureShape 6 = .ok (.istore_n 2, 1) := by decide +kernel
theorem dX5_measureShape_7 : decode cX5_measureShape 7 = .ok (.iconst 0, 1) := by decide +kernel
theorem dX5_measureShape_8 : decode cX5_measureShape 8 = .ok (.istore_n 3, 1) := by decide +kernel
theorem dX5_measureShape_9 : decode cX5_measureShape 9 = .ok (.iconst 0, 1) := by decide +kernel
theorem dX5_measureShape_10 : decode cX5_measureShape 10 = .ok (.istore 4, 2) := by decide +kernel
theorem dX5_measureShape_12 : decode cX5_measureShape 12 = .ok (.iconst 0, 1) := by decide +kernel
theorem dX5_measureShape_13 : decode cX5_measureShape 13 = .ok (.istore 5, 2) := by decide +kernel
theorem dX5_measureShape_15 : decode cX5_measureShape 15 = .ok (.iload 5, 2) := by decide +kernel
theorem dX5_measureShape_17 : decode cX5_measureShape 17 = .ok (.aload_n 0, 1) := by decide +kernel
theorem dX5_measureShape_18 : decode cX5_measureShape 18 = .ok (.getfield 102, 3) := by decide +kernel
theorem dX5_measureShape_21 : decode cX5_measureShape 21 = .ok (.if_icmp .ge 99, 3) := by decide +kernel
theorem dX5_measureShape_24 : decode cX5_measureShape 24 = .ok (.aload_n 0, 1) := by decide +kernel
theorem dX5_measureShape_25 : decode cX5_measureShape 25 = .ok (.getfield 24, 3) := by decide +kernel
theorem dX5_measureShape_28 : decode cX5_measureShape 28 = .ok (.iload 5, 2) := by decide +kernel
theorem dX5_measureShape_30 : decode cX5_measureShape 30 = .ok (.iaload, 1) := by decide +kernel
theorem dX5_measureShape_31 : decode cX5_measureShape 31 = .ok (.istore 6, 2) := by decide +kernel
theorem dX5_measureShape_33 : decode cX5_measureShape 33 = .ok (.aload_n 0, 1) := by decide +kernel
theorem dX5_measureShape_34 : decode cX5_measureShape 34 = .ok (.getfield 21, 3) := by decide +kernel
theorem dX5_measureShape_37 : decode cX5_measureShape 37 = .ok (.iload 6, 2) := by decide +kernel
theorem dX5_measureShape_39 : decode cX5_measureShape 39 = .ok (.iaload, 1) := by decide +kernel
theorem dX5_measureShape_40 : decode cX5_measureShape 40 = .ok (.iload_n 2, 1) := by decide +kernel
theorem dX5_measureShape_41 : decode cX5_measureShape 41 = .ok (.iand, 1) := by decide +kernel
theorem dX5_measureShape_42 : decode cX5_measureShape 42 = .ok (.iload_n 2, 1) := by decide +kernel
theorem dX5_measureShape_43 : decode cX5_measureShape 43 = .ok (.if_icmp .eq 6, 3) := by decide +kernel
theorem dX5_measureShape_46 : decode cX5_measureShape 46 = .ok (.goto 68, 3) := by decide +kernel
theorem dX5_measureShape_49 : decode cX5_measureShape 49 = .ok (.iinc 3 1, 3) := by decide +kernel
theorem dX5_measureShape_52 : decode cX5_measureShape 52 = .ok (.iconst 0, 1) := by decide +kernel
theorem dX5_measureShape_53 : decode cX5_measureShape 53 = .ok (.istore 7, 2) := by decide +kernel
theorem dX5_measureShape_55 : decode cX5_measureShape 55 = .ok (.iload 7, 2) := by decide +kernel
theorem dX5_measureShape_57 : decode cX5_measureShape 57 = .ok (.bipush 14, 2) := by decide +kernel
theorem dX5_measureShape_59 : decode cX5_measureShape 59 = .ok (.if_icmp .ge 55, 3) := by decide +kernel
theorem dX5_measureShape_62 : decode cX5_measureShape 62 = .ok (.iload_n 2, 1) := by decide +kernel
theorem dX5_measureShape_63 : decode cX5_measureShape 63 = .ok (.iload 7, 2) := by decide +kernel
theorem dX5_measureShape_65 : decode cX5_measureShape 65 = .ok (.invokestatic 66, 3) := by decide +kernel
theorem dX5_measureShape_68 : decode cX5_measureShape 68 = .ok (.ifCond .eq 22, 3) := by decide +kernel
theorem dX5_measureShape_71 : decode cX5_measureShape 71 = .ok (.aload_n 0, 1) := by decide +kernel
theorem dX5_measureShape_72 : decode cX5_measureShape 72 = .ok (.iload 7, 2) := by decide +kernel
theorem dX5_measureShape_74 : decode cX5_measureShape 74 = .ok (.iload 6, 2) := by decide +kernel
theorem dX5_measureShape_76 : decode cX5_measureShape 76 = .ok (.invokestatic 119, 3) := by decide +kernel
theorem dX5_measureShape_79 : decode cX5_measureShape 79 = .ok (.iload 6, 2) := by decide +kernel
theorem dX5_measureShape_81 : decode cX5_measureShape 81 = .ok (.invokestatic 122, 3) := by decide +kernel
theorem dX5_measureShape_84 : decode cX5_measureShape 84 = .ok (.invokevirtual 125, 3) := by decide +kernel
theorem dX5_measureShape_87 : decode cX5_measureShape 87 = .ok (.goto 5, 3) := by decide +kernel
theorem dX5_measureShape_90 : decode cX5_measureShape 90 = .ok (.bipush (-4), 2) := by decide +kernel
theorem dX5_measureShape_92 : decode cX5_measureShape 92 = .ok (.istore 8, 2) := by decide +kernel
theorem dX5_measureShape_94 : decode cX5_measureShape 94 = .ok (.iload 8, 2) := by decide +kernel
theorem dX5_measureShape_96 : decode cX5_measureShape 96 = .ok (.ifCond .lt 12, 3) := by decide +kernel
theorem dX5_measureShape_99 : decode cX5_measureShape 99 = .ok (.iload 4, 2) := by decide +kernel
theorem dX5_measureShape_101 : decode cX5_measureShape 101 = .ok (.iconst 1, 1) := by decide +kernel
theorem dX5_measureShape_102 : decode cX5_measureShape 102 = .ok (.iload 8, 2) := by decide +kernel
theorem dX5_measureShape_104 : decode cX5_measureShape 104 = .ok (.ishl, 1) := by decide +kernel
theorem dX5_measureShape_105 : decode cX5_measureShape 105 = .ok (.ior, 1) := by decide +kernel
theorem dX5_measureShape_106 : decode cX5_measureShape 106 = .ok (.istore 4, 2) := by decide +kernel
theorem dX5_measureShape_108 : decode cX5_measureShape 108 = .ok (.iinc 7 1, 3) := by decide +kernel
theorem dX5_measureShape_111 : decode cX5_measureShape 111 = .ok (.goto (-56), 3) := by decide +kernel
theorem dX5_measureShape_114 : decode cX5_measureShape 114 = .ok (.iinc 5 1, 3) := by decide +kernel
theorem dX5_measureShape_117 : decode cX5_measureShape 117 = .ok (.goto (-102), 3) := by decide +kernel
theorem dX5_measureShape_120 : decode cX5_measureShape 120 = .ok (.aload_n 0, 1) := by decide +kernel
theorem dX5_measureShape_121 : decode cX5_measureShape 121 = .ok (.getfield 30, 3) := by decide +kernel
theorem dX5_measureShape_124 : decode cX5_measureShape 124 = .ok (.iload_n 1, 1) := by decide +kernel
theorem dX5_measureShape_125 : decode cX5_measureShape 125 = .ok (.iload_n 3, 1) := by decide +kernel
theorem dX5_measureShape_126 : decode cX5_measureShape 126 = .ok (.iastore, 1) := by decide +kernel
theorem dX5_measureShape_127 : decode cX5_measureShape 127 = .ok (.aload_n 0, 1) := by decide +kernel
theorem dX5_measureShape_128 : decode cX5_measureShape 128 = .ok (.getfield 33, 3) := by decide +kernel
theorem dX5_measureShape_131 : decode cX5_measureShape 131 = .ok (.iload_n 1, 1) := by decide +kernel
theorem dX5_measureShape_132 : decode cX5_measureShape 132 = .ok (.iload 4, 2) := by decide +kernel
theorem dX5_measureShape_134 : decode cX5_measureShape 134 = .ok (.iastore, 1) := by decide +kernel
theorem dX5_measureShape_135 : decode cX5_measureShape 135 = .ok (.return_, 1) := by decide +kernel
theorem dX5_met_0 : decode cX5_met 0 = .ok (.iload_n 1, 1) := by decide +kernel
theorem dX5_met_1 : decode cX5_met 1 = .ok (.ifCond .lt 9, 3) := by decide +kernel
theorem dX5_met_4 : decode cX5_met 4 = .ok (.iload_n 1, 1) := by decide +kernel
theorem dX5_met_5 : decode cX5_met 5 = .ok (.bipush 14, 2) := by decide +kernel
theorem dX5_met_7 : decode cX5_met 7 = .ok (.if_icmp .lt 6, 3) := by decide +kernel
theorem dX5_met_10 : decode cX5_met 10 = .ok (.bipush (-4), 2) := by decide +kernel
theorem dX5_met_12 : decode cX5_met 12 = .ok (.ireturn, 1) := by decide +kernel
theorem dX5_met_13 : decode cX5_met 13 = .ok (.aload_n 0, 1) := by decide +kernel
theorem dX5_met_14 : decode cX5_met 14 = .ok (.getfield 9, 3) := by decide +kernel
theorem dX5_met_17 : decode cX5_met 17 = .ok (.iload_n 1, 1) := by decide +kernel
theorem dX5_met_18 : decode cX5_met 18 = .ok (.iaload, 1) := by decide +kernel
theorem dX5_met_19 : decode cX5_met 19 = .ok (.iload_n 2, 1) := by decide +kernel
theorem dX5_met_20 : decode cX5_met 20 = .ok (.iadd, 1) := by decide +kernel
theorem dX5_met_21 : decode cX5_met 21 = .ok (.istore 4, 2) := by decide +kernel
theorem dX5_met_23 : decode cX5_met 23 = .ok (.aload_n 0, 1) := by decide +kernel
theorem dX5_met_24 : decode cX5_met 24 = .ok (.getfield 15, 3) := by decide +kernel
theorem dX5_met_27 : decode cX5_met 27 = .ok (.iload_n 1, 1) := by decide +kernel
theorem dX5_met_28 : decode cX5_met 28 = .ok (.iaload, 1) := by decide +kernel
theorem dX5_met_29 : decode cX5_met 29 = .ok (.iload_n 3, 1) := by decide +kernel
theorem dX5_met_30 : decode cX5_met 30 = .ok (.iadd, 1) := by decide +kernel
theorem dX5_met_31 : decode cX5_met 31 = .ok (.istore 5, 2) := by decide +kernel
theorem dX5_met_33 : decode cX5_met 33 = .ok (.aload_n 0, 1) := by decide +kernel
theorem dX5_met_34 : decode cX5_met 34 = .ok (.getfield 42, 3) := by decide +kernel
theorem dX5_met_37 : decode cX5_met 37 = .ok (.iconst 1, 1) := by decide +kernel
theorem dX5_met_38 : decode cX5_met 38 = .ok (.if_icmp .ne 17, 3) := by decide +kernel
theorem dX5_met_41 : decode cX5_met 41 = .ok (.aload_n 0, 1) := by decide +kernel
theorem dX5_met_42 : decode cX5_met 42 = .ok (.iload 4, 2) := by decide +kernel
theorem dX5_met_44 : decode cX5_met 44 = .ok (.iload 5, 2) := by decide +kernel
theorem dX5_met_46 : decode cX5_met 46 = .ok (.bipush 12, 2) := by decide +kernel
theorem dX5_met_48 : decode cX5_met 48 = .ok (.invokestatic 87, 3) := by decide +kernel
theorem dX5_met_51 : decode cX5_met 51 = .ok (.invokevirtual 129, 3) := by decide +kernel
theorem dX5_met_54 : decode cX5_met 54 = .ok (.ireturn, 1) := by decide +kernel
theorem dX5_met_55 : decode cX5_met 55 = .ok (.aload_n 0, 1) := by decide +kernel
theorem dX5_met_56 : decode cX5_met 56 = .ok (.iload 4, 2) := by decide +kernel
theorem dX5_met_58 : decode cX5_met 58 = .ok (.iload 5, 2) := by decide +kernel
theorem dX5_met_60 : decode cX5_met 60 = .ok (.invokevirtual 129, 3) := by decide +kernel
theorem dX5_met_63 : decode cX5_met 63 = .ok (.istore 6, 2) := by decide +kernel
theorem dX5_met_65 : decode cX5_met 65 = .ok (.iload 6, 2) := by decide +kernel
theorem dX5_met_67 : decode cX5_met 67 = .ok (.ifCond .ge 40, 3) := by decide +kernel
theorem dX5_met_70 : decode cX5_met 70 = .ok (.aload_n 0, 1) := by decide +kernel
theorem dX5_met_71 : decode cX5_met 71 = .ok (.getfield 42, 3) := by decide +kernel
theorem dX5_met_74 : decode cX5_met 74 = .ok (.iconst 2, 1) := by decide +kernel
theorem dX5_met_75 : decode cX5_met 75 = .ok (.if_icmp .ne 32, 3) := by decide +kernel
theorem dX5_met_78 : decode cX5_met 78 = .ok (.aload_n 0, 1) := by decide +kernel
theorem dX5_met_79 : decode cX5_met 79 = .ok (.iload 4, 2) := by decide +kernel
theorem dX5_met_81 : decode cX5_met 81 = .ok (.iload 5, 2) := by decide +kernel
theorem dX5_met_83 : decode cX5_met 83 = .ok (.iconst 1, 1) := by decide +kernel
theorem dX5_met_84 : decode cX5_met 84 = .ok (.isub, 1) := by decide +kernel
theorem dX5_met_85 : decode cX5_met 85 = .ok (.invokevirtual 129, 3) := by decide +kernel
theorem dX5_met_88 : decode cX5_met 88 = .ok (.istore 6, 2) := by decide +kernel
theorem dX5_met_90 : decode cX5_met 90 = .ok (.iload 6, 2) := by decide +kernel
theorem dX5_met_92 : decode cX5_met 92 = .ok (.ifCond .ge 15, 3) := by decide +kernel
theorem dX5_met_95 : decode cX5_met 95 = .ok (.aload_n 0, 1) := by decide +kernel
theorem dX5_met_96 : decode cX5_met 96 = .ok (.iload 4, 2) := by decide +kernel
theorem dX5_met_98 : decode cX5_met 98 = .ok (.iload 5, 2) := by decide +kernel
theorem dX5_met_100 : decode cX5_met 100 = .ok (.iconst 1, 1) := by decide +kernel
theorem dX5_met_101 : decode cX5_met 101 = .ok (.iadd, 1) := by decide +kernel
theorem dX5_met_102 : decode cX5_met 102 = .ok (.invokevirtual 129, 3) := by decide +kernel
theorem dX5_met_105 : decode cX5_met 105 = .ok (.istore 6, 2) := by decide +kernel
theorem dX5_met_107 : decode cX5_met 107 = .ok (.iload 6, 2) := by decide +kernel
theorem dX5_met_109 : decode cX5_met 109 = .ok (.ireturn, 1) := by decide +kernel
theorem dX5_numberAt_0 : decode cX5_numberAt 0 = .ok (.iload_n 1, 1) := by decide +kernel
theorem dX5_numberAt_1 : decode cX5_numberAt 1 = .ok (.ifCond .lt 19, 3) := by decide +kernel
theorem dX5_numberAt_4 : decode cX5_numberAt 4 = .ok (.iload_n 1, 1) := by decide +kernel
theorem dX5_numberAt_5 : decode cX5_numberAt 5 = .ok (.bipush 20, 2) := by decide +kernel
theorem dX5_numberAt_7 : decode cX5_numberAt 7 = .ok (.if_icmp .ge 13, 3) := by decide +kernel
theorem dX5_numberAt_10 : decode cX5_numberAt 10 = .ok (.iload_n 2, 1) := by decide +kernel
theorem dX5_numberAt_11 : decode cX5_numberAt 11 = .ok (.ifCond .lt 9, 3) := by decide +kernel
theorem dX5_numberAt_14 : decode cX5_numberAt 14 = .ok (.iload_n 2, 1) := by decide +kernel
theorem dX5_numberAt_15 : decode cX5_numberAt 15 = .ok (.bipush 12, 2) := by decide +kernel
theorem dX5_numberAt_17 : decode cX5_numberAt 17 = .ok (.if_icmp .lt 6, 3) := by decide +kernel
theorem dX5_numberAt_20 : decode cX5_numberAt 20 = .ok (.bipush (-4), 2) := by decide +kernel
theorem dX5_numberAt_22 : decode cX5_numberAt 22 = .ok (.ireturn, 1) := by decide +kernel
theorem dX5_numberAt_23 : decode cX5_numberAt 23 = .ok (.aload_n 0, 1) := by decide +kernel
theorem dX5_numberAt_24 : decode cX5_numberAt 24 = .ok (.getfield 18, 3) := by decide +kernel
theorem dX5_numberAt_27 : decode cX5_numberAt 27 = .ok (.iload_n 1, 1) := by decide +kernel
theorem dX5_numberAt_28 : decode cX5_numberAt 28 = .ok (.bipush 12, 2) := by decide +kernel
theorem dX5_numberAt_30 : decode cX5_numberAt 30 = .ok (.imul, 1) := by decide +kernel
theorem dX5_numberAt_31 : decode cX5_numberAt 31 = .ok (.iload_n 2, 1) := by decide +kernel
theorem dX5_numberAt_32 : decode cX5_numberAt 32 = .ok (.iadd, 1) := by decide +kernel
theorem dX5_numberAt_33 : decode cX5_numberAt 33 = .ok (.iaload, 1) := by decide +kernel
theorem dX5_numberAt_34 : decode cX5_numberAt 34 = .ok (.ireturn, 1) := by decide +kernel
theorem dX5_largestOf_0 : decode cX5_largestOf 0 = .ok (.iload_n 1, 1) := by decide +kernel
theorem dX5_largestOf_1 : decode cX5_largestOf 1 = .ok (.iload_n 2, 1) := by decide +kernel
theorem dX5_largestOf_2 : decode cX5_largestOf 2 = .ok (.invokestatic 96, 3) := by decide +kernel
theorem dX5_largestOf_5 : decode cX5_largestOf 5 = .ok (.ifCond .eq 16, 3) := by decide +kernel
theorem dX5_largestOf_8 : decode cX5_largestOf 8 = .ok (.aload_n 0, 1) := by decide +kernel
theorem dX5_largestOf_9 : decode cX5_largestOf 9 = .ok (.getfield 21, 3) := by decide +kernel
theorem dX5_largestOf_12 : decode cX5_largestOf 12 = .ok (.iload_n 1, 1) := by decide +kernel
theorem dX5_largestOf_13 : decode cX5_largestOf 13 = .ok (.iload_n 2, 1) := by decide +kernel
theorem dX5_largestOf_14 : decode cX5_largestOf 14 = .ok (.invokestatic 99, 3) := by decide +kernel
theorem dX5_largestOf_17 : decode cX5_largestOf 17 = .ok (.iaload, 1) := by decide +kernel
theorem dX5_largestOf_18 : decode cX5_largestOf 18 = .ok (.goto 4, 3) := by decide +kernel
theorem dX5_largestOf_21 : decode cX5_largestOf 21 = .ok (.iconst 0, 1) := by decide +kernel
theorem dX5_largestOf_22 : decode cX5_largestOf 22 = .ok (.ireturn, 1) := by decide +kernel
theorem dX5_placesOf_0 : decode cX5_placesOf 0 = .ok (.iconst 0, 1) := by decide +kernel
theorem dX5_placesOf_1 : decode cX5_placesOf 1 = .ok (.istore_n 2, 1) := by decide +kernel
theorem dX5_placesOf_2 : decode cX5_placesOf 2 = .ok (.iconst 0, 1) := by decide +kernel
theorem dX5_placesOf_3 : decode cX5_placesOf 3 = .ok (.istore_n 3, 1) := by decide +kernel
theorem dX5_placesOf_4 : decode cX5_placesOf 4 = .ok (.iload_n 3, 1) := by decide +kernel
theorem dX5_placesOf_5 : decode cX5_placesOf 5 = .ok (.sipush 897, 3) := by decide +kernel
theorem dX5_placesOf_8 : decode cX5_placesOf 8 = .ok (.if_icmp .ge 24, 3) := by decide +kernel
theorem dX5_placesOf_11 : decode cX5_placesOf 11 = .ok (.aload_n 0, 1) := by decide +kernel
theorem dX5_placesOf_12 : decode cX5_placesOf 12 = .ok (.getfield 21, 3) := by decide +kernel
theorem dX5_placesOf_15 : decode cX5_placesOf 15 = .ok (.iload_n 3, 1) := by decide +kernel
theorem dX5_placesOf_16 : decode cX5_placesOf 16 = .ok (.iaload, 1) := by decide +kernel
theorem dX5_placesOf_17 : decode cX5_placesOf 17 = .ok (.iload_n 1, 1) := by decide +kernel
theorem dX5_placesOf_18 : decode cX5_placesOf 18 = .ok (.iand, 1) := by decide +kernel
theorem dX5_placesOf_19 : decode cX5_placesOf 19 = .ok (.iload_n 1, 1) := by decide +kernel
theorem dX5_placesOf_20 : decode cX5_placesOf 20 = .ok (.if_icmp .ne 6, 3) := by decide +kernel
theorem dX5_placesOf_23 : decode cX5_placesOf 23 = .ok (.iinc 2 1, 3) := by decide +kernel
theorem dX5_placesOf_26 : decode cX5_placesOf 26 = .ok (.iinc 3 1, 3) := by decide +kernel
theorem dX5_placesOf_29 : decode cX5_placesOf 29 = .ok (.goto (-25), 3) := by decide +kernel
theorem dX5_placesOf_32 : decode cX5_placesOf 32 = .ok (.iload_n 2, 1) := by decide +kernel
theorem dX5_placesOf_33 : decode cX5_placesOf 33 = .ok (.ireturn, 1) := by decide +kernel
theorem dX5_placeOf_0 : decode cX5_placeOf 0 = .ok (.iconst 0, 1) := by decide +kernel
theorem dX5_placeOf_1 : decode cX5_placeOf 1 = .ok (.istore_n 3, 1) := by decide +kernel
theorem dX5_placeOf_2 : decode cX5_placeOf 2 = .ok (.iconst 0, 1) := by decide +kernel
theorem dX5_placeOf_3 : decode cX5_placeOf 3 = .ok (.istore 4, 2) := by decide +kernel
theorem dX5_placeOf_5 : decode cX5_placeOf 5 = .ok (.iload 4, 2) := by decide +kernel
theorem dX5_placeOf_7 : decode cX5_placeOf 7 = .ok (.sipush 897, 3) := by decide +kernel
theorem dX5_placeOf_10 : decode cX5_placeOf 10 = .ok (.if_icmp .ge 51, 3) := by decide +kernel
theorem dX5_placeOf_13 : decode cX5_placeOf 13 = .ok (.aload_n 0, 1) := by decide +kernel
theorem dX5_placeOf_14 : decode cX5_placeOf 14 = .ok (.getfield 21, 3) := by decide +kernel
theorem dX5_placeOf_17 : decode cX5_placeOf 17 = .ok (.iload 4, 2) := by decide +kernel
theorem dX5_placeOf_19 : decode cX5_placeOf 19 = .ok (.iaload, 1) := by decide +kernel
theorem dX5_placeOf_20 : decode cX5_placeOf 20 = .ok (.iload_n 1, 1) := by decide +kernel
theorem dX5_placeOf_21 : decode cX5_placeOf 21 = .ok (.iand, 1) := by decide +kernel
theorem dX5_placeOf_22 : decode cX5_placeOf 22 = .ok (.iload_n 1, 1) := by decide +kernel
theorem dX5_placeOf_23 : decode cX5_placeOf 23 = .ok (.if_icmp .ne 32, 3) := by decide +kernel
theorem dX5_placeOf_26 : decode cX5_placeOf 26 = .ok (.iload_n 3, 1) := by decide +kernel
theorem dX5_placeOf_27 : decode cX5_placeOf 27 = .ok (.iload_n 2, 1) := by decide +kernel
theorem dX5_placeOf_28 : decode cX5_placeOf 28 = .ok (.if_icmp .ne 24, 3) := by decide +kernel
theorem dX5_placeOf_31 : decode cX5_placeOf 31 = .ok (.bipush 100, 2) := by decide +kernel
theorem dX5_placeOf_33 : decode cX5_placeOf 33 = .ok (.iload 4, 2) := by decide +kernel
theorem dX5_placeOf_35 : decode cX5_placeOf 35 = .ok (.invokestatic 119, 3) := by decide +kernel
theorem dX5_placeOf_38 : decode cX5_placeOf 38 = .ok (.bipush 50, 2) := by decide +kernel
theorem dX5_placeOf_40 : decode cX5_placeOf 40 = .ok (.iadd, 1) := by decide +kernel
theorem dX5_placeOf_41 : decode cX5_placeOf 41 = .ok (.imul, 1) := by decide +kernel
theorem dX5_placeOf_42 : decode cX5_placeOf 42 = .ok (.iload 4, 2) := by decide +kernel
theorem dX5_placeOf_44 : decode cX5_placeOf 44 = .ok (.invokestatic 122, 3) := by decide +kernel
theorem dX5_placeOf_47 : decode cX5_placeOf 47 = .ok (.iadd, 1) := by decide +kernel
theorem dX5_placeOf_48 : decode cX5_placeOf 48 = .ok (.bipush 50, 2) := by decide +kernel
theorem dX5_placeOf_50 : decode cX5_placeOf 50 = .ok (.iadd, 1) := by decide +kernel
theorem dX5_placeOf_51 : decode cX5_placeOf 51 = .ok (.ireturn, 1) := by decide +kernel
theorem dX5_placeOf_52 : decode cX5_placeOf 52 = .ok (.iinc 3 1, 3) := by decide +kernel
theorem dX5_placeOf_55 : decode cX5_placeOf 55 = .ok (.iinc 4 1, 3) := by decide +kernel
theorem dX5_placeOf_58 : decode cX5_placeOf 58 = .ok (.goto (-53), 3) := by decide +kernel
theorem dX5_placeOf_61 : decode cX5_placeOf 61 = .ok (.bipush (-4), 2) := by decide +kernel
theorem dX5_placeOf_63 : decode cX5_placeOf 63 = .ok (.ireturn, 1) := by decide +kernel
theorem dX5_gainOf_0 : decode cX5_gainOf 0 = .ok (.iload_n 1, 1) := by decide +kernel
theorem dX5_gainOf_1 : decode cX5_gainOf 1 = .ok (.ifCond .lt 11, 3) := by decide +kernel
theorem dX5_gainOf_4 : decode cX5_gainOf 4 = .ok (.iload_n 1, 1) := by decide +kernel
theorem dX5_gainOf_5 : decode cX5_gainOf 5 = .ok (.aload_n 0, 1) := by decide +kernel
theorem dX5_gainOf_6 : decode cX5_gainOf 6 = .ok (.getfield 109, 3) := by decide +kernel
theorem dX5_gainOf_9 : decode cX5_gainOf 9 = .ok (.if_icmp .lt 7, 3) := by decide +kernel
theorem dX5_gainOf_12 : decode cX5_gainOf 12 = .ok (.sipush (-10000), 3) := by decide +kernel
theorem dX5_gainOf_15 : decode cX5_gainOf 15 = .ok (.ireturn, 1) := by decide +kernel
theorem dX5_gainOf_16 : decode cX5_gainOf 16 = .ok (.aload_n 0, 1) := by decide +kernel
theorem dX5_gainOf_17 : decode cX5_gainOf 17 = .ok (.getfield 33, 3) := by decide +kernel
theorem dX5_gainOf_20 : decode cX5_gainOf 20 = .ok (.iload_n 1, 1) := by decide +kernel
theorem dX5_gainOf_21 : decode cX5_gainOf 21 = .ok (.iaload, 1) := by decide +kernel
theorem dX5_gainOf_22 : decode cX5_gainOf 22 = .ok (.invokestatic 132, 3) := by decide +kernel
theorem dX5_gainOf_25 : decode cX5_gainOf 25 = .ok (.aload_n 0, 1) := by decide +kernel
theorem dX5_gainOf_26 : decode cX5_gainOf 26 = .ok (.getfield 27, 3) := by decide +kernel
theorem dX5_gainOf_29 : decode cX5_gainOf 29 = .ok (.iload_n 1, 1) := by decide +kernel
theorem dX5_gainOf_30 : decode cX5_gainOf 30 = .ok (.iaload, 1) := by decide +kernel
theorem dX5_gainOf_31 : decode cX5_gainOf 31 = .ok (.invokestatic 132, 3) := by decide +kernel
theorem dX5_gainOf_34 : decode cX5_gainOf 34 = .ok (.isub, 1) := by decide +kernel
theorem dX5_gainOf_35 : decode cX5_gainOf 35 = .ok (.aload_n 0, 1) := by decide +kernel
theorem dX5_gainOf_36 : decode cX5_gainOf 36 = .ok (.getfield 30, 3) := by decide +kernel
theorem dX5_gainOf_39 : decode cX5_gainOf 39 = .ok (.iload_n 1, 1) := by decide +kernel
theorem dX5_gainOf_40 : decode cX5_gainOf 40 = .ok (.iaload, 1) := by decide +kernel
theorem dX5_gainOf_41 : decode cX5_gainOf 41 = .ok (.isub, 1) := by decide +kernel
theorem dX5_gainOf_42 : decode cX5_gainOf 42 = .ok (.iconst 1, 1) := by decide +kernel
theorem dX5_gainOf_43 : decode cX5_gainOf 43 = .ok (.iadd, 1) := by decide +kernel
theorem dX5_gainOf_44 : decode cX5_gainOf 44 = .ok (.ireturn, 1) := by decide +kernel
theorem dX5_bestShape_0 : decode cX5_bestShape 0 = .ok (.aload_n 0, 1) := by decide +kernel
theorem dX5_bestShape_1 : decode cX5_bestShape 1 = .ok (.getfield 109, 3) := by decide +kernel
theorem dX5_bestShape_4 : decode cX5_bestShape 4 = .ok (.ifCond .le 7, 3) := by decide +kernel
theorem dX5_bestShape_7 : decode cX5_bestShape 7 = .ok (.iconst 0, 1) := by decide +kernel
theorem dX5_bestShape_8 : decode cX5_bestShape 8 = .ok (.goto 5, 3) := by decide +kernel
theorem dX5_bestShape_11 : decode cX5_bestShape 11 = .ok (.bipush (-4), 2) := by decide +kernel
theorem dX5_bestShape_13 : decode cX5_bestShape 13 = .ok (.istore_n 1, 1) := by decide +kernel
theorem dX5_bestShape_14 : decode cX5_bestShape 14 = .ok (.iconst 1, 1) := by decide +kernel
theorem dX5_bestShape_15 : decode cX5_bestShape 15 = .ok (.istore_n 2, 1) := by decide +kernel
theorem dX5_bestShape_16 : decode cX5_bestShape 16 = .ok (.iload_n 2, 1) := by decide +kernel
theorem dX5_bestShape_17 : decode cX5_bestShape 17 = .ok (.aload_n 0, 1) := by decide +kernel
theorem dX5_bestShape_18 : decode cX5_bestShape 18 = .ok (.getfield 109, 3) := by decide +kernel
theorem dX5_bestShape_21 : decode cX5_bestShape 21 = .ok (.if_icmp .ge 20, 3) := by decide +kernel
theorem dX5_bestShape_24 : decode cX5_bestShape 24 = .ok (.aload_n 0, 1) := by decide +kernel
theorem dX5_bestShape_25 : decode cX5_bestShape 25 = .ok (.iload_n 2, 1) := by decide +kernel
theorem dX5_bestShape_26 : decode cX5_bestShape 26 = .ok (.iload_n 1, 1) := by decide +kernel
theorem dX5_bestShape_27 : decode cX5_bestShape 27 = .ok (.invokevirtual 137, 3) := by decide +kernel
theorem dX5_bestShape_30 : decode cX5_bestShape 30 = .ok (.ifCond .eq 5, 3) := by decide +kernel
theorem dX5_bestShape_33 : decode cX5_bestShape 33 = .ok (.iload_n 2, 1) := by decide +kernel
theorem dX5_bestShape_34 : decode cX5_bestShape 34 = .ok (.istore_n 1, 1) := by decide +kernel
theorem dX5_bestShape_35 : decode cX5_bestShape 35 = .ok (.iinc 2 1, 3) := by decide +kernel
theorem dX5_bestShape_38 : decode cX5_bestShape 38 = .ok (.goto (-22), 3) := by decide +kernel
theorem dX5_bestShape_41 : decode cX5_bestShape 41 = .ok (.iload_n 1, 1) := by decide +kernel
theorem dX5_bestShape_42 : decode cX5_bestShape 42 = .ok (.ireturn, 1) := by decide +kernel
theorem dX5_isBetter_0 : decode cX5_isBetter 0 = .ok (.aload_n 0, 1) := by decide +kernel
theorem dX5_isBetter_1 : decode cX5_isBetter 1 = .ok (.iload_n 1, 1) := by decide +kernel
theorem dX5_isBetter_2 : decode cX5_isBetter 2 = .ok (.invokevirtual 140, 3) := by decide +kernel
theorem dX5_isBetter_5 : decode cX5_isBetter 5 = .ok (.istore_n 3, 1) := by decide +kernel
theorem dX5_isBetter_6 : decode cX5_isBetter 6 = .ok (.aload_n 0, 1) := by decide +kernel
theorem dX5_isBetter_7 : decode cX5_isBetter 7 = .ok (.iload_n 2, 1) := by decide +kernel
theorem dX5_isBetter_8 : decode cX5_isBetter 8 = .ok (.invokevirtual 140, 3) := by decide +kernel
theorem dX5_isBetter_11 : decode cX5_isBetter 11 = .ok (.istore 4, 2) := by decide +kernel
theorem dX5_isBetter_13 : decode cX5_isBetter 13 = .ok (.iload_n 3, 1) := by decide +kernel
theorem dX5_isBetter_14 : decode cX5_isBetter 14 = .ok (.iload 4, 2) := by decide +kernel
theorem dX5_isBetter_16 : decode cX5_isBetter 16 = .ok (.if_icmp .eq 15, 3) := by decide +kernel
theorem dX5_isBetter_19 : decode cX5_isBetter 19 = .ok (.iload_n 3, 1) := by decide +kernel
theorem dX5_isBetter_20 : decode cX5_isBetter 20 = .ok (.iload 4, 2) := by decide +kernel
theorem dX5_isBetter_22 : decode cX5_isBetter 22 = .ok (.if_icmp .le 7, 3) := by decide +kernel
theorem dX5_isBetter_25 : decode cX5_isBetter 25 = .ok (.iconst 1, 1) := by decide +kernel
theorem dX5_isBetter_26 : decode cX5_isBetter 26 = .ok (.goto 4, 3) := by decide +kernel
theorem dX5_isBetter_29 : decode cX5_isBetter 29 = .ok (.iconst 0, 1) := by decide +kernel
theorem dX5_isBetter_30 : decode cX5_isBetter 30 = .ok (.ireturn, 1) := by decide +kernel
theorem dX5_isBetter_31 : decode cX5_isBetter 31 = .ok (.aload_n 0, 1) := by decide +kernel
theorem dX5_isBetter_32 : decode cX5_isBetter 32 = .ok (.getfield 33, 3) := by decide +kernel
theorem dX5_isBetter_35 : decode cX5_isBetter 35 = .ok (.iload_n 1, 1) := by decide +kernel
theorem dX5_isBetter_36 : decode cX5_isBetter 36 = .ok (.iaload, 1) := by decide +kernel
theorem dX5_isBetter_37 : decode cX5_isBetter 37 = .ok (.invokestatic 132, 3) := by decide +kernel
theorem dX5_isBetter_40 : decode cX5_isBetter 40 = .ok (.aload_n 0, 1) := by decide +kernel
theorem dX5_isBetter_41 : decode cX5_isBetter 41 = .ok (.getfield 33, 3) := by decide +kernel
theorem dX5_isBetter_44 : decode cX5_isBetter 44 = .ok (.iload_n 2, 1) := by decide +kernel
theorem dX5_isBetter_45 : decode cX5_isBetter 45 = .ok (.iaload, 1) := by decide +kernel
theorem dX5_isBetter_46 : decode cX5_isBetter 46 = .ok (.invokestatic 132, 3) := by decide +kernel
theorem dX5_isBetter_49 : decode cX5_isBetter 49 = .ok (.if_icmp .le 7, 3) := by decide +kernel
theorem dX5_isBetter_52 : decode cX5_isBetter 52 = .ok (.iconst 1, 1) := by decide +kernel
theorem dX5_isBetter_53 : decode cX5_isBetter 53 = .ok (.goto 4, 3) := by decide +kernel
theorem dX5_isBetter_56 : decode cX5_isBetter 56 = .ok (.iconst 0, 1) := by decide +kernel
theorem dX5_isBetter_57 : decode cX5_isBetter 57 = .ok (.ireturn, 1) := by decide +kernel
theorem dX5_covered_0 : decode cX5_covered 0 = .ok (.iconst 0, 1) := by decide +kernel
theorem dX5_covered_1 : decode cX5_covered 1 = .ok (.istore_n 1, 1) := by decide +kernel
theorem dX5_covered_2 : decode cX5_covered 2 = .ok (.iconst 0, 1) := by decide +kernel
theorem dX5_covered_3 : decode cX5_covered 3 = .ok (.istore_n 2, 1) := by decide +kernel
theorem dX5_covered_4 : decode cX5_covered 4 = .ok (.iload_n 2, 1) := by decide +kernel
theorem dX5_covered_5 : decode cX5_covered 5 = .ok (.aload_n 0, 1) := by decide +kernel
theorem dX5_covered_6 : decode cX5_covered 6 = .ok (.getfield 109, 3) := by decide +kernel
theorem dX5_covered_9 : decode cX5_covered 9 = .ok (.if_icmp .ge 18, 3) := by decide +kernel
theorem dX5_covered_12 : decode cX5_covered 12 = .ok (.iload_n 1, 1) := by decide +kernel
theorem dX5_covered_13 : decode cX5_covered 13 = .ok (.aload_n 0, 1) := by decide +kernel
theorem dX5_covered_14 : decode cX5_covered 14 = .ok (.getfield 33, 3) := by decide +kernel
theorem dX5_covered_17 : decode cX5_covered 17 = .ok (.iload_n 2, 1) := by decide +kernel
theorem dX5_covered_18 : decode cX5_covered 18 = .ok (.iaload, 1) := by decide +kernel
theorem dX5_covered_19 : decode cX5_covered 19 = .ok (.ior, 1) := by decide +kernel
theorem dX5_covered_20 : decode cX5_covered 20 = .ok (.istore_n 1, 1) := by decide +kernel
theorem dX5_covered_21 : decode cX5_covered 21 = .ok (.iinc 2 1, 3) := by decide +kernel
theorem dX5_covered_24 : decode cX5_covered 24 = .ok (.goto (-20), 3) := by decide +kernel
theorem dX5_covered_27 : decode cX5_covered 27 = .ok (.iload_n 1, 1) := by decide +kernel
theorem dX5_covered_28 : decode cX5_covered 28 = .ok (.ireturn, 1) := by decide +kernel
end
section
theorem dX6_init_0 : decode cX6_init 0 = .ok (.aload_n 0, 1) := by decide +kernel
theorem dX6_init_1 : decode cX6_init 1 = .ok (.invokespecial 3, 3) := by decide +kernel
theorem dX6_init_4 : decode cX6_init 4 = .ok (.aload_n 0, 1) := by decide +kernel
theorem dX6_init_5 : decode cX6_init 5 = .ok (.new 9, 3) := by decide +kernel
theorem dX6_init_8 : decode cX6_init 8 = .ok (.dup, 1) := by decide +kernel
theorem dX6_init_9 : decode cX6_init 9 = .ok (.invokespecial 11, 3) := by decide +kernel
theorem dX6_init_12 : decode cX6_init 12 = .ok (.putfield 12, 3) := by decide +kernel
theorem dX6_init_15 : decode cX6_init 15 = .ok (.aload_n 0, 1) := by decide +kernel
theorem dX6_init_16 : decode cX6_init 16 = .ok (.new 16, 3) := by decide +kernel
theorem dX6_init_19 : decode cX6_init 19 = .ok (.dup, 1) := by decide +kernel
theorem dX6_init_20 : decode cX6_init 20 = .ok (.invokespecial 18, 3) := by decide +kernel
theorem dX6_init_23 : decode cX6_init 23 = .ok (.putfield 19, 3) := by decide +kernel
theorem dX6_init_26 : decode cX6_init 26 = .ok (.aload_n 0, 1) := by decide +kernel
theorem dX6_init_27 : decode cX6_init 27 = .ok (.new 16, 3) := by decide +kernel
theorem dX6_init_30 : decode cX6_init 30 = .ok (.dup, 1) := by decide +kernel
theorem dX6_init_31 : decode cX6_init 31 = .ok (.invokespecial 18, 3) := by decide +kernel
theorem dX6_init_34 : decode cX6_init 34 = .ok (.putfield 23, 3) := by decide +kernel
theorem dX6_init_37 : decode cX6_init 37 = .ok (.aload_n 0, 1) := by decide +kernel
theorem dX6_init_38 : decode cX6_init 38 = .ok (.new 26, 3) := by decide +kernel
theorem dX6_init_41 : decode cX6_init 41 = .ok (.dup, 1) := by decide +kernel
theorem dX6_init_42 : decode cX6_init 42 = .ok (.bipush 8, 2) := by decide +kernel
theorem dX6_init_44 : decode cX6_init 44 = .ok (.invokespecial 28, 3) := by decide +kernel
theorem dX6_init_47 : decode cX6_init 47 = .ok (.putfield 31, 3) := by decide +kernel
theorem dX6_init_50 : decode cX6_init 50 = .ok (.aload_n 0, 1) := by decide +kernel
theorem dX6_init_51 : decode cX6_init 51 = .ok (.new 26, 3) := by decide +kernel
theorem dX6_init_54 : decode cX6_init 54 = .ok (.dup, 1) := by decide +kernel
theorem dX6_init_55 : decode cX6_init 55 = .ok (.iconst 2, 1) := by decide +kernel
theorem dX6_init_56 : decode cX6_init 56 = .ok (.invokespecial 28, 3) := by decide +kernel
theorem dX6_init_59 : decode cX6_init 59 = .ok (.putfield 35, 3) := by decide +kernel
theorem dX6_init_62 : decode cX6_init 62 = .ok (.aload_n 0, 1) := by decide +kernel
theorem dX6_init_63 : decode cX6_init 63 = .ok (.new 38, 3) := by decide +kernel
theorem dX6_init_66 : decode cX6_init 66 = .ok (.dup, 1) := by decide +kernel
theorem dX6_init_67 : decode cX6_init 67 = .ok (.invokespecial 40, 3) := by decide +kernel
theorem dX6_init_70 : decode cX6_init 70 = .ok (.putfield 41, 3) := by decide +kernel
theorem dX6_init_73 : decode cX6_init 73 = .ok (.aload_n 0, 1) := by decide +kernel
theorem dX6_init_74 : decode cX6_init 74 = .ok (.new 38, 3) := by decide +kernel
theorem dX6_init_77 : decode cX6_init 77 = .ok (.dup, 1) := by decide +kernel
theorem dX6_init_78 : decode cX6_init 78 = .ok (.invokespecial 40, 3) := by decide +kernel
theorem dX6_init_81 : decode cX6_init 81 = .ok (.putfield 45, 3) := by decide +kernel
theorem dX6_init_84 : decode cX6_init 84 = .ok (.aload_n 0, 1) := by decide +kernel
theorem dX6_init_85 : decode cX6_init 85 = .ok (.new 48, 3) := by decide +kernel
theorem dX6_init_88 : decode cX6_init 88 = .ok (.dup, 1) := by decide +kernel
theorem dX6_init_89 : decode cX6_init 89 = .ok (.invokespecial 50, 3) := by decide +kernel
theorem dX6_init_92 : decode cX6_init 92 = .ok (.putfield 51, 3) := by decide +kernel
theorem dX6_init_95 : decode cX6_init 95 = .ok (.aload_n 0, 1) := by decide +kernel
theorem dX6_init_96 : decode cX6_init 96 = .ok (.new 55, 3) := by decide +kernel
theorem dX6_init_99 : decode cX6_init 99 = .ok (.dup, 1) := by decide +kernel
theorem dX6_init_100 : decode cX6_init 100 = .ok (.invokespecial 57, 3) := by decide +kernel
theorem dX6_init_103 : decode cX6_init 103 = .ok (.putfield 58, 3) := by decide +kernel
theorem dX6_init_106 : decode cX6_init 106 = .ok (.iconst 0, 1) := by decide +kernel
theorem dX6_init_107 : decode cX6_init 107 = .ok (.istore_n 1, 1) := by decide +kernel
theorem dX6_init_108 : decode cX6_init 108 = .ok (.iload_n 1, 1) := by decide +kernel
theorem dX6_init_109 : decode cX6_init 109 = .ok (.getstatic 62, 3) := by decide +kernel
theorem dX6_init_112 : decode cX6_init 112 = .ok (.arraylength, 1) := by decide +kernel
theorem dX6_init_113 : decode cX6_init 113 = .ok (.if_icmp .ge 38, 3) := by decide +kernel
theorem dX6_init_116 : decode cX6_init 116 = .ok (.iload_n 1, 1) := by decide +kernel
theorem dX6_init_117 : decode cX6_init 117 = .ok (.getstatic 66, 3) := by decide +kernel
theorem dX6_init_120 : decode cX6_init 120 = .ok (.arraylength, 1) := by decide +kernel
theorem dX6_init_121 : decode cX6_init 121 = .ok (.if_icmp .ge 30, 3) := by decide +kernel
theorem dX6_init_124 : decode cX6_init 124 = .ok (.aload_n 0, 1) := by decide +kernel
theorem dX6_init_125 : decode cX6_init 125 = .ok (.getfield 19, 3) := by decide +kernel
theorem dX6_init_128 : decode cX6_init 128 = .ok (.getstatic 62, 3) := by decide +kernel
theorem dX6_init_131 : decode cX6_init 131 = .ok (.iload_n 1, 1) := by decide +kernel
theorem dX6_init_132 : decode cX6_init 132 = .ok (.iaload, 1) := by decide +kernel
theorem dX6_init_133 : decode cX6_init 133 = .ok (.getstatic 66, 3) := by decide +kernel
theorem dX6_init_136 : decode cX6_init 136 = .ok (.iload_n 1, 1) := by decide +kernel
theorem dX6_init_137 : decode cX6_init 137 = .ok (.iaload, 1) := by decide +kernel
theorem dX6_init_138 : decode cX6_init 138 = .ok (.invokestatic 69, 3) := by decide +kernel
theorem dX6_init_141 : decode cX6_init 141 = .ok (.invokevirtual 73, 3) := by decide +kernel
theorem dX6_init_144 : decode cX6_init 144 = .ok (.pop, 1) := by decide +kernel
theorem dX6_init_145 : decode cX6_init 145 = .ok (.iinc 1 1, 3) := by decide +kernel
theorem dX6_init_148 : decode cX6_init 148 = .ok (.goto (-40), 3) := by decide +kernel
theorem dX6_init_151 : decode cX6_init 151 = .ok (.return_, 1) := by decide +kernel
theorem dX6_write_0 : decode cX6_write 0 = .ok (.iload_n 1, 1) := by decide +kernel
theorem dX6_write_1 : decode cX6_write 1 = .ok (.bipush 32, 2) := by decide +kernel
theorem dX6_write_3 : decode cX6_write 3 = .ok (.if_icmp .lt 9, 3) := by decide +kernel
theorem dX6_write_6 : decode cX6_write 6 = .ok (.iload_n 1, 1) := by decide +kernel
theorem dX6_write_7 : decode cX6_write 7 = .ok (.bipush 126, 2) := by decide +kernel
theorem dX6_write_9 : decode cX6_write 9 = .ok (.if_icmp .le 5, 3) := by decide +kernel
theorem dX6_write_12 : decode cX6_write 12 = .ok (.iconst (-1), 1) := by decide +kernel
theorem dX6_write_13 : decode cX6_write 13 = .ok (.ireturn, 1) := by decide +kernel
theorem dX6_write_14 : decode cX6_write 14 = .ok (.aload_n 0, 1) := by decide +kernel
theorem dX6_write_15 : decode cX6_write 15 = .ok (.getfield 12, 3) := by decide +kernel
theorem dX6_write_18 : decode cX6_write 18 = .ok (.iload_n 1, 1) := by decide +kernel
theorem dX6_write_19 : decode cX6_write 19 = .ok (.invokevirtual 77, 3) := by decide +kernel
theorem dX6_write_22 : decode cX6_write 22 = .ok (.ifCond .eq 13, 3) := by decide +kernel
theorem dX6_write_25 : decode cX6_write 25 = .ok (.aload_n 0, 1) := by decide +kernel
theorem dX6_write_26 : decode cX6_write 26 = .ok (.getfield 12, 3) := by decide +kernel
theorem dX6_write_29 : decode cX6_write 29 = .ok (.getfield 81, 3) := by decide +kernel
theorem dX6_write_32 : decode cX6_write 32 = .ok (.goto 5, 3) := by decide +kernel
theorem dX6_write_35 : decode cX6_write 35 = .ok (.bipush (-3), 2) := by decide +kernel
theorem dX6_write_37 : decode cX6_write 37 = .ok (.ireturn, 1) := by decide +kernel
theorem dX6_wipe_0 : decode cX6_wipe 0 = .ok (.aload_n 0, 1) := by decide +kernel
theorem dX6_wipe_1 : decode cX6_wipe 1 = .ok (.getfield 12, 3) := by decide +kernel
theorem dX6_wipe_4 : decode cX6_wipe 4 = .ok (.getfield 81, 3) := by decide +kernel
theorem dX6_wipe_7 : decode cX6_wipe 7 = .ok (.istore_n 1, 1) := by decide +kernel
theorem dX6_wipe_8 : decode cX6_wipe 8 = .ok (.aload_n 0, 1) := by decide +kernel
theorem dX6_wipe_9 : decode cX6_wipe 9 = .ok (.getfield 12, 3) := by decide +kernel
theorem dX6_wipe_12 : decode cX6_wipe 12 = .ok (.iconst 0, 1) := by decide +kernel
theorem dX6_wipe_13 : decode cX6_wipe 13 = .ok (.putfield 81, 3) := by decide +kernel
theorem dX6_wipe_16 : decode cX6_wipe 16 = .ok (.iload_n 1, 1) := by decide +kernel
theorem dX6_wipe_17 : decode cX6_wipe 17 = .ok (.ireturn, 1) := by decide +kernel
theorem dX6_fault_0 : decode cX6_fault 0 = .ok (.aload_n 0, 1) := by decide +kernel
theorem dX6_fault_1 : decode cX6_fault 1 = .ok (.getfield 12, 3) := by decide +kernel
theorem dX6_fault_4 : decode cX6_fault 4 = .ok (.aload_n 0, 1) := by decide +kernel
theorem dX6_fault_5 : decode cX6_fault 5 = .ok (.getfield 23, 3) := by decide +kernel
theorem dX6_fault_8 : decode cX6_fault 8 = .ok (.invokevirtual 85, 3) := by decide +kernel
theorem dX6_fault_11 : decode cX6_fault 11 = .ok (.ireturn, 1) := by decide +kernel
theorem dX6_lay_0 : decode cX6_lay 0 = .ok (.aload_n 0, 1) := by decide +kernel
theorem dX6_lay_1 : decode cX6_lay 1 = .ok (.getfield 12, 3) := by decide +kernel
theorem dX6_lay_4 : decode cX6_lay 4 = .ok (.aload_n 0, 1) := by decide +kernel
theorem dX6_lay_5 : decode cX6_lay 5 = .ok (.getfield 23, 3) := by decide +kernel
theorem dX6_lay_8 : decode cX6_lay 8 = .ok (.invokevirtual 85, 3) := by decide +kernel
theorem dX6_lay_11 : decode cX6_lay 11 = .ok (.bipush (-4), 2) := by decide +kernel
theorem dX6_lay_13 : decode cX6_lay 13 = .ok (.if_icmp .ne 13, 3) := by decide +kernel
theorem dX6_lay_16 : decode cX6_lay 16 = .ok (.aload_n 0, 1) := by decide +kernel
theorem dX6_lay_17 : decode cX6_lay 17 = .ok (.getfield 23, 3) := by decide +kernel
theorem dX6_lay_20 : decode cX6_lay 20 = .ok (.getfield 89, 3) := by decide +kernel
theorem dX6_lay_23 : decode cX6_lay 23 = .ok (.ifCond .ne 6, 3) := by decide +kernel
theorem dX6_lay_26 : decode cX6_lay 26 = .ok (.bipush (-2), 2) := by decide +kernel
theorem dX6_lay_28 : decode cX6_lay 28 = .ok (.ireturn, 1) := by decide +kernel
theorem dX6_lay_29 : decode cX6_lay 29 = .ok (.aload_n 0, 1) := by decide +kernel
theorem dX6_lay_30 : decode cX6_lay 30 = .ok (.getfield 19, 3) := by decide +kernel
theorem dX6_lay_33 : decode cX6_lay 33 = .ok (.aload_n 0, 1) := by decide +kernel
theorem dX6_lay_34 : decode cX6_lay 34 = .ok (.getfield 23, 3) := by decide +kernel
theorem dX6_lay_37 : decode cX6_lay 37 = .ok (.invokevirtual 92, 3) := by decide +kernel
theorem dX6_lay_40 : decode cX6_lay 40 = .ok (.aload_n 0, 1) := by decide +kernel
theorem dX6_lay_41 : decode cX6_lay 41 = .ok (.getfield 31, 3) := by decide +kernel
theorem dX6_lay_44 : decode cX6_lay 44 = .ok (.iconst 0, 1) := by decide +kernel
theorem dX6_lay_45 : decode cX6_lay 45 = .ok (.putfield 96, 3) := by decide +kernel
theorem dX6_lay_48 : decode cX6_lay 48 = .ok (.aload_n 0, 1) := by decide +kernel
theorem dX6_lay_49 : decode cX6_lay 49 = .ok (.getfield 35, 3) := by decide +kernel
theorem dX6_lay_52 : decode cX6_lay 52 = .ok (.iconst 0, 1) := by decide +kernel
theorem dX6_lay_53 : decode cX6_lay 53 = .ok (.putfield 96, 3) := by decide +kernel
theorem dX6_lay_56 : decode cX6_lay 56 = .ok (.aload_n 0, 1) := by decide +kernel
theorem dX6_lay_57 : decode cX6_lay 57 = .ok (.invokevirtual 97, 3) := by decide +kernel
theorem dX6_lay_60 : decode cX6_lay 60 = .ok (.aload_n 0, 1) := by decide +kernel
theorem dX6_lay_61 : decode cX6_lay 61 = .ok (.getfield 19, 3) := by decide +kernel
theorem dX6_lay_64 : decode cX6_lay 64 = .ok (.getfield 89, 3) := by decide +kernel
theorem dX6_lay_67 : decode cX6_lay 67 = .ok (.ireturn, 1) := by decide +kernel
theorem dX6_note_0 : decode cX6_note 0 = .ok (.aload_n 0, 1) := by decide +kernel
theorem dX6_note_1 : decode cX6_note 1 = .ok (.iload_n 1, 1) := by decide +kernel
theorem dX6_note_2 : decode cX6_note 2 = .ok (.invokevirtual 100, 3) := by decide +kernel
theorem dX6_note_5 : decode cX6_note 5 = .ok (.ifCond .ne 5, 3) := by decide +kernel
theorem dX6_note_8 : decode cX6_note 8 = .ok (.iconst (-1), 1) := by decide +kernel
theorem dX6_note_9 : decode cX6_note 9 = .ok (.ireturn, 1) := by decide +kernel
theorem dX6_note_10 : decode cX6_note 10 = .ok (.iload_n 2, 1) := by decide +kernel
theorem dX6_note_11 : decode cX6_note 11 = .ok (.ifCond .ne 12, 3) := by decide +kernel
theorem dX6_note_14 : decode cX6_note 14 = .ok (.aload_n 0, 1) := by decide +kernel
theorem dX6_note_15 : decode cX6_note 15 = .ok (.getfield 19, 3) := by decide +kernel
theorem dX6_note_18 : decode cX6_note 18 = .ok (.iload_n 1, 1) := by decide +kernel
theorem dX6_note_19 : decode cX6_note 19 = .ok (.invokevirtual 103, 3) := by decide +kernel
theorem dX6_note_22 : decode cX6_note 22 = .ok (.ireturn, 1) := by decide +kernel
theorem dX6_note_23 : decode cX6_note 23 = .ok (.iload_n 2, 1) := by decide +kernel
theorem dX6_note_24 : decode cX6_note 24 = .ok (.iconst 1, 1) := by decide +kernel
theorem dX6_note_25 : decode cX6_note 25 = .ok (.if_icmp .ne 14, 3) := by decide +kernel
theorem dX6_note_28 : decode cX6_note 28 = .ok (.aload_n 0, 1) := by decide +kernel
theorem dX6_note_29 : decode cX6_note 29 = .ok (.getfield 19, 3) := by decide +kernel
theorem dX6_note_32 : decode cX6_note 32 = .ok (.iload_n 1, 1) := by decide +kernel
theorem dX6_note_33 : decode cX6_note 33 = .ok (.invokevirtual 106, 3) := by decide +kernel
theorem dX6_note_36 : decode cX6_note 36 = .ok (.goto 4, 3) := by decide +kernel
theorem dX6_note_39 : decode cX6_note 39 = .ok (.iconst (-1), 1) := by decide +kernel
theorem dX6_note_40 : decode cX6_note 40 = .ok (.ireturn, 1) := by decide +kernel
theorem dX6_put_0 : decode cX6_put 0 = .ok (.iload_n 1, 1) := by decide +kernel
theorem dX6_put_1 : decode cX6_put 1 = .ok (.iload_n 2, 1) := by decide +kernel
theorem dX6_put_2 : decode cX6_put 2 = .ok (.invokestatic 109, 3) := by decide +kernel
theorem dX6_put_5 : decode cX6_put 5 = .ok (.ifCond .ne 5, 3) := by decide +kernel
theorem dX6_put_8 : decode cX6_put 8 = .ok (.iconst (-1), 1) := by decide +kernel
theorem dX6_put_9 : decode cX6_put 9 = .ok (.ireturn, 1) := by decide +kernel
theorem dX6_put_10 : decode cX6_put 10 = .ok (.aload_n 0, 1) := by decide +kernel
theorem dX6_put_11 : decode cX6_put 11 = .ok (.getfield 19, 3) := by decide +kernel
theorem dX6_put_14 : decode cX6_put 14 = .ok (.iload_n 1, 1) := by decide +kernel
theorem dX6_put_15 : decode cX6_put 15 = .ok (.iload_n 2, 1) := by decide +kernel
theorem dX6_put_16 : decode cX6_put 16 = .ok (.invokestatic 69, 3) := by decide +kernel
theorem dX6_put_19 : decode cX6_put 19 = .ok (.invokevirtual 113, 3) := by decide +kernel
theorem dX6_put_22 : decode cX6_put 22 = .ok (.ifCond .lt 6, 3) := by decide +kernel
theorem dX6_put_25 : decode cX6_put 25 = .ok (.bipush (-2), 2) := by decide +kernel
theorem dX6_put_27 : decode cX6_put 27 = .ok (.ireturn, 1) := by decide +kernel
theorem dX6_put_28 : decode cX6_put 28 = .ok (.aload_n 0, 1) := by decide +kernel
theorem dX6_put_29 : decode cX6_put 29 = .ok (.getfield 19, 3) := by decide +kernel
theorem dX6_put_32 : decode cX6_put 32 = .ok (.getfield 89, 3) := by decide +kernel
theorem dX6_put_35 : decode cX6_put 35 = .ok (.bipush 14, 2) := by decide +kernel
theorem dX6_put_37 : decode cX6_put 37 = .ok (.if_icmp .lt 6, 3) := by decide +kernel
theorem dX6_put_40 : decode cX6_put 40 = .ok (.bipush (-3), 2) := by decide +kernel
theorem dX6_put_42 : decode cX6_put 42 = .ok (.ireturn, 1) := by decide +kernel
theorem dX6_put_43 : decode cX6_put 43 = .ok (.aload_n 0, 1) := by decide +kernel
theorem dX6_put_44 : decode cX6_put 44 = .ok (.invokevirtual 116, 3) := by decide +kernel
theorem dX6_put_47 : decode cX6_put 47 = .ok (.aload_n 0, 1) := by decide +kernel
theorem dX6_put_48 : decode cX6_put 48 = .ok (.getfield 19, 3) := by decide +kernel
theorem dX6_put_51 : decode cX6_put 51 = .ok (.iload_n 1, 1) := by decide +kernel
theorem dX6_put_52 : decode cX6_put 52 = .ok (.iload_n 2, 1) := by decide +kernel
theorem dX6_put_53 : decode cX6_put 53 = .ok (.invokestatic 69, 3) := by decide +kernel
theorem dX6_put_56 : decode cX6_put 56 = .ok (.invokevirtual 73, 3) := by decide +kernel
theorem dX6_put_59 : decode cX6_put 59 = .ok (.ireturn, 1) := by decide +kernel
theorem dX6_take_0 : decode cX6_take 0 = .ok (.aload_n 0, 1) := by decide +kernel
theorem dX6_take_1 : decode cX6_take 1 = .ok (.iload_n 1, 1) := by decide +kernel
theorem dX6_take_2 : decode cX6_take 2 = .ok (.invokevirtual 100, 3) := by decide +kernel
theorem dX6_take_5 : decode cX6_take 5 = .ok (.ifCond .ne 5, 3) := by decide +kernel
theorem dX6_take_8 : decode cX6_take 8 = .ok (.iconst (-1), 1) := by decide +kernel
theorem dX6_take_9 : decode cX6_take 9 = .ok (.ireturn, 1) := by decide +kernel
theorem dX6_take_10 : decode cX6_take 10 = .ok (.aload_n 0, 1) := by decide +kernel
theorem dX6_take_11 : decode cX6_take 11 = .ok (.getfield 19, 3) := by decide +kernel
theorem dX6_take_14 : decode cX6_take 14 = .ok (.getfield 89, 3) := by decide +kernel
theorem dX6_take_17 : decode cX6_take 17 = .ok (.iconst 1, 1) := by decide +kernel
theorem dX6_take_18 : decode cX6_take 18 = .ok (.if_icmp .ne 6, 3) := by decide +kernel
theorem dX6_take_21 : decode cX6_take 21 = .ok (.bipush (-2), 2) := by decide +kernel
theorem dX6_take_23 : decode cX6_take 23 = .ok (.ireturn, 1) := by decide +kernel
theorem dX6_take_24 : decode cX6_take 24 = .ok (.aload_n 0, 1) := by decide +kernel
theorem dX6_take_25 : decode cX6_take 25 = .ok (.invokevirtual 116, 3) := by decide +kernel
theorem dX6_take_28 : decode cX6_take 28 = .ok (.aload_n 0, 1) := by decide +kernel
theorem dX6_take_29 : decode cX6_take 29 = .ok (.getfield 19, 3) := by decide +kernel
theorem dX6_take_32 : decode cX6_take 32 = .ok (.iload_n 1, 1) := by decide +kernel
theorem dX6_take_33 : decode cX6_take 33 = .ok (.invokevirtual 119, 3) := by decide +kernel
theorem dX6_take_36 : decode cX6_take 36 = .ok (.aload_n 0, 1) := by decide +kernel
theorem dX6_take_37 : decode cX6_take 37 = .ok (.getfield 19, 3) := by decide +kernel
theorem dX6_take_40 : decode cX6_take 40 = .ok (.getfield 89, 3) := by decide +kernel
theorem dX6_take_43 : decode cX6_take 43 = .ok (.ireturn, 1) := by decide +kernel
theorem dX6_shift_0 : decode cX6_shift 0 = .ok (.aload_n 0, 1) := by decide +kernel
theorem dX6_shift_1 : decode cX6_shift 1 = .ok (.iload_n 1, 1) := by decide +kernel
theorem dX6_shift_2 : decode cX6_shift 2 = .ok (.invokevirtual 100, 3) := by decide +kernel
theorem dX6_shift_5 : decode cX6_shift 5 = .ok (.ifCond .eq 22, 3) := by decide +kernel
theorem dX6_shift_8 : decode cX6_shift 8 = .ok (.aload_n 0, 1) := by decide +kernel
theorem dX6_shift_9 : decode cX6_shift 9 = .ok (.iload_n 2, 1) := by decide +kernel
theorem dX6_shift_10 : decode cX6_shift 10 = .ok (.iload_n 3, 1) := by decide +kernel
theorem dX6_shift_11 : decode cX6_shift 11 = .ok (.invokevirtual 122, 3) := by decide +kernel
theorem dX6_shift_14 : decode cX6_shift 14 = .ok (.ifCond .eq 13, 3) := by decide +kernel
theorem dX6_shift_17 : decode cX6_shift 17 = .ok (.aload_n 0, 1) := by decide +kernel
theorem dX6_shift_18 : decode cX6_shift 18 = .ok (.iload_n 1, 1) := by decide +kernel
theorem dX6_shift_19 : decode cX6_shift 19 = .ok (.iload_n 2, 1) := by decide +kernel
theorem dX6_shift_20 : decode cX6_shift 20 = .ok (.iload_n 3, 1) := by decide +kernel
theorem dX6_shift_21 : decode cX6_shift 21 = .ok (.invokevirtual 125, 3) := by decide +kernel
theorem dX6_shift_24 : decode cX6_shift 24 = .ok (.ifCond .ne 5, 3) := by decide +kernel
theorem dX6_shift_27 : decode cX6_shift 27 = .ok (.iconst (-1), 1) := by decide +kernel
theorem dX6_shift_28 : decode cX6_shift 28 = .ok (.ireturn, 1) := by decide +kernel
theorem dX6_shift_29 : decode cX6_shift 29 = .ok (.aload_n 0, 1) := by decide +kernel
theorem dX6_shift_30 : decode cX6_shift 30 = .ok (.getfield 19, 3) := by decide +kernel
theorem dX6_shift_33 : decode cX6_shift 33 = .ok (.iload_n 1, 1) := by decide +kernel
theorem dX6_shift_34 : decode cX6_shift 34 = .ok (.invokevirtual 103, 3) := by decide +kernel
theorem dX6_shift_37 : decode cX6_shift 37 = .ok (.iload_n 2, 1) := by decide +kernel
theorem dX6_shift_38 : decode cX6_shift 38 = .ok (.iadd, 1) := by decide +kernel
theorem dX6_shift_39 : decode cX6_shift 39 = .ok (.aload_n 0, 1) := by decide +kernel
theorem dX6_shift_40 : decode cX6_shift 40 = .ok (.getfield 19, 3) := by decide +kernel
theorem dX6_shift_43 : decode cX6_shift 43 = .ok (.iload_n 1, 1) := by decide +kernel
theorem dX6_shift_44 : decode cX6_shift 44 = .ok (.invokevirtual 106, 3) := by decide +kernel
theorem dX6_shift_47 : decode cX6_shift 47 = .ok (.iload_n 3, 1) := by decide +kernel
theorem dX6_shift_48 : decode cX6_shift 48 = .ok (.iadd, 1) := by decide +kernel
theorem dX6_shift_49 : decode cX6_shift 49 = .ok (.invokestatic 69, 3) := by decide +kernel
theorem dX6_shift_52 : decode cX6_shift 52 = .ok (.istore 4, 2) := by decide +kernel
theorem dX6_shift_54 : decode cX6_shift 54 = .ok (.aload_n 0, 1) := by decide +kernel
theorem dX6_shift_55 : decode cX6_shift 55 = .ok (.getfield 19, 3) := by decide +kernel
theorem dX6_shift_58 : decode cX6_shift 58 = .ok (.iload 4, 2) := by decide +kernel
theorem dX6_shift_60 : decode cX6_shift 60 = .ok (.invokevirtual 113, 3) := by decide +kernel
theorem dX6_shift_63 : decode cX6_shift 63 = .ok (.ifCond .lt 6, 3) := by decide +kernel
theorem dX6_shift_66 : decode cX6_shift 66 = .ok (.bipush (-2), 2) := by decide +kernel
theorem dX6_shift_68 : decode cX6_shift 68 = .ok (.ireturn, 1) := by decide +kernel
theorem dX6_shift_69 : decode cX6_shift 69 = .ok (.aload_n 0, 1) := by decide +kernel
theorem dX6_shift_70 : decode cX6_shift 70 = .ok (.invokevirtual 116, 3) := by decide +kernel
theorem dX6_shift_73 : decode cX6_shift 73 = .ok (.aload_n 0, 1) := by decide +kernel
theorem dX6_shift_74 : decode cX6_shift 74 = .ok (.getfield 19, 3) := by decide +kernel
theorem dX6_shift_77 : decode cX6_shift 77 = .ok (.iload_n 1, 1) := by decide +kernel
theorem dX6_shift_78 : decode cX6_shift 78 = .ok (.invokevirtual 119, 3) := by decide +kernel
theorem dX6_shift_81 : decode cX6_shift 81 = .ok (.aload_n 0, 1) := by decide +kernel
theorem dX6_shift_82 : decode cX6_shift 82 = .ok (.getfield 19, 3) := by decide +kernel
theorem dX6_shift_85 : decode cX6_shift 85 = .ok (.iload 4, 2) := by decide +kernel
theorem dX6_shift_87 : decode cX6_shift 87 = .ok (.invokevirtual 73, 3) := by decide +kernel
theorem dX6_shift_90 : decode cX6_shift 90 = .ok (.ireturn, 1) := by decide +kernel
theorem dX6_shiftAll_0 : decode cX6_shiftAll 0 = .ok (.aload_n 0, 1) := by decide +kernel
theorem dX6_shiftAll_1 : decode cX6_shiftAll 1 = .ok (.iload_n 1, 1) := by decide +kernel
theorem dX6_shiftAll_2 : decode cX6_shiftAll 2 = .ok (.iload_n 2, 1) := by decide +kernel
theorem dX6_shiftAll_3 : decode cX6_shiftAll 3 = .ok (.invokevirtual 122, 3) := by decide +kernel
theorem dX6_shiftAll_6 : decode cX6_shiftAll 6 = .ok (.ifCond .ne 5, 3) := by decide +kernel
theorem dX6_shiftAll_9 : decode cX6_shiftAll 9 = .ok (.iconst (-1), 1) := by decide +kernel
theorem dX6_shiftAll_10 : decode cX6_shiftAll 10 = .ok (.ireturn, 1) := by decide +kernel
theorem dX6_shiftAll_11 : decode cX6_shiftAll 11 = .ok (.iconst 0, 1) := by decide +kernel
theorem dX6_shiftAll_12 : decode cX6_shiftAll 12 = .ok (.istore_n 3, 1) := by decide +kernel
theorem dX6_shiftAll_13 : decode cX6_shiftAll 13 = .ok (.iload_n 3, 1) := by decide +kernel
theorem dX6_shiftAll_14 : decode cX6_shiftAll 14 = .ok (.aload_n 0, 1) := by decide +kernel
theorem dX6_shiftAll_15 : decode cX6_shiftAll 15 = .ok (.getfield 19, 3) := by decide +kernel
theorem dX6_shiftAll_18 : decode cX6_shiftAll 18 = .ok (.getfield 89, 3) := by decide +kernel
theorem dX6_shiftAll_21 : decode cX6_shiftAll 21 = .ok (.if_icmp .ge 21, 3) := by decide +kernel
theorem dX6_shiftAll_24 : decode cX6_shiftAll 24 = .ok (.aload_n 0, 1) := by decide +kernel
theorem dX6_shiftAll_25 : decode cX6_shiftAll 25 = .ok (.iload_n 3, 1) := by decide +kernel
theorem dX6_shiftAll_26 : decode cX6_shiftAll 26 = .ok (.iload_n 1, 1) := by decide +kernel
theorem dX6_shiftAll_27 : decode cX6_shiftAll 27 = .ok (.iload_n 2, 1) := by decide +kernel
theorem dX6_shiftAll_28 : decode cX6_shiftAll 28 = .ok (.invokevirtual 125, 3) := by decide +kernel
theorem dX6_shiftAll_31 : decode cX6_shiftAll 31 = .ok (.ifCond .ne 5, 3) := by decide +kernel
theorem dX6_shiftAll_34 : decode cX6_shiftAll 34 = .ok (.iconst (-1), 1) := by decide +kernel
theorem dX6_shiftAll_35 : decode cX6_shiftAll 35 = .ok (.ireturn, 1) := by decide +kernel
theorem dX6_shiftAll_36 : decode cX6_shiftAll 36 = .ok (.iinc 3 1, 3) := by decide +kernel
theorem dX6_shiftAll_39 : decode cX6_shiftAll 39 = .ok (.goto (-26), 3) := by decide +kernel
theorem dX6_shiftAll_42 : decode cX6_shiftAll 42 = .ok (.aload_n 0, 1) := by decide +kernel
theorem dX6_shiftAll_43 : decode cX6_shiftAll 43 = .ok (.invokevirtual 116, 3) := by decide +kernel
theorem dX6_shiftAll_46 : decode cX6_shiftAll 46 = .ok (.aload_n 0, 1) := by decide +kernel
theorem dX6_shiftAll_47 : decode cX6_shiftAll 47 = .ok (.getfield 19, 3) := by decide +kernel
theorem dX6_shiftAll_50 : decode cX6_shiftAll 50 = .ok (.iload_n 1, 1) := by decide +kernel
theorem dX6_shiftAll_51 : decode cX6_shiftAll 51 = .ok (.iload_n 2, 1) := by decide +kernel
theorem dX6_shiftAll_52 : decode cX6_shiftAll 52 = .ok (.invokestatic 69, 3) := by decide +kernel
theorem dX6_shiftAll_55 : decode cX6_shiftAll 55 = .ok (.invokevirtual 129, 3) := by decide +kernel
theorem dX6_shiftAll_58 : decode cX6_shiftAll 58 = .ok (.aload_n 0, 1) := by decide +kernel
theorem dX6_shiftAll_59 : decode cX6_shiftAll 59 = .ok (.getfield 19, 3) := by decide +kernel
theorem dX6_shiftAll_62 : decode cX6_shiftAll 62 = .ok (.getfield 89, 3) := by decide +kernel
theorem dX6_shiftAll_65 : decode cX6_shiftAll 65 = .ok (.ireturn, 1) := by decide +kernel
theorem dX6_mode_0 : decode cX6_mode 0 = .ok (.iload_n 1, 1) := by decide +kernel
theorem dX6_mode_1 : decode cX6_mode 1 = .ok (.ifCond .lt 8, 3) := by decide +kernel
theorem dX6_mode_4 : decode cX6_mode 4 = .ok (.iload_n 1, 1) := by decide +kernel
theorem dX6_mode_5 : decode cX6_mode 5 = .ok (.iconst 2, 1) := by decide +kernel
theorem dX6_mode_6 : decode cX6_mode 6 = .ok (.if_icmp .le 5, 3) := by decide +kernel
theorem dX6_mode_9 : decode cX6_mode 9 = .ok (.iconst (-1), 1) := by decide +kernel
theorem dX6_mode_10 : decode cX6_mode 10 = .ok (.ireturn, 1) := by decide +kernel
theorem dX6_mode_11 : decode cX6_mode 11 = .ok (.iload_n 1, 1) := by decide +kernel
theorem dX6_mode_12 : decode cX6_mode 12 = .ok (.aload_n 0, 1) := by decide +kernel
theorem dX6_mode_13 : decode cX6_mode 13 = .ok (.getfield 19, 3) := by decide +kernel
theorem dX6_mode_16 : decode cX6_mode 16 = .ok (.getfield 132, 3) := by decide +kernel
theorem dX6_mode_19 : decode cX6_mode 19 = .ok (.if_icmp .ne 6, 3) := by decide +kernel
theorem dX6_mode_22 : decode cX6_mode 22 = .ok (.bipush (-2), 2) := by decide +kernel
theorem dX6_mode_24 : decode cX6_mode 24 = .ok (.ireturn, 1) := by decide +kernel
theorem dX6_mode_25 : decode cX6_mode 25 = .ok (.aload_n 0, 1) := by decide +kernel
theorem dX6_mode_26 : decode cX6_mode 26 = .ok (.invokevirtual 116, 3) := by decide +kernel
theorem dX6_mode_29 : decode cX6_mode 29 = .ok (.aload_n 0, 1) := by decide +kernel
theorem dX6_mode_30 : decode cX6_mode 30 = .ok (.getfield 19, 3) := by decide +kernel
theorem dX6_mode_33 : decode cX6_mode 33 = .ok (.getfield 132, 3) := by decide +kernel
theorem dX6_mode_36 : decode cX6_mode 36 = .ok (.istore_n 2, 1) := by decide +kernel
theorem dX6_mode_37 : decode cX6_mode 37 = .ok (.aload_n 0, 1) := by decide +kernel
theorem dX6_mode_38 : decode cX6_mode 38 = .ok (.getfield 19, 3) := by decide +kernel
theorem dX6_mode_41 : decode cX6_mode 41 = .ok (.iload_n 1, 1) := by decide +kernel
theorem dX6_mode_42 : decode cX6_mode 42 = .ok (.putfield 132, 3) := by decide +kernel
theorem dX6_mode_45 : decode cX6_mode 45 = .ok (.iload_n 2, 1) := by decide +kernel
theorem dX6_mode_46 : decode cX6_mode 46 = .ok (.ireturn, 1) := by decide +kernel
theorem dX6_undo_0 : decode cX6_undo 0 = .ok (.aload_n 0, 1) := by decide +kernel
theorem dX6_undo_1 : decode cX6_undo 1 = .ok (.getfield 31, 3) := by decide +kernel
theorem dX6_undo_4 : decode cX6_undo 4 = .ok (.getfield 96, 3) := by decide +kernel
theorem dX6_undo_7 : decode cX6_undo 7 = .ok (.ifCond .ne 6, 3) := by decide +kernel
theorem dX6_undo_10 : decode cX6_undo 10 = .ok (.bipush (-2), 2) := by decide +kernel
theorem dX6_undo_12 : decode cX6_undo 12 = .ok (.ireturn, 1) := by decide +kernel
theorem dX6_undo_13 : decode cX6_undo 13 = .ok (.aload_n 0, 1) := by decide +kernel
theorem dX6_undo_14 : decode cX6_undo 14 = .ok (.getfield 31, 3) := by decide +kernel
theorem dX6_undo_17 : decode cX6_undo 17 = .ok (.aload_n 0, 1) := by decide +kernel
theorem dX6_undo_18 : decode cX6_undo 18 = .ok (.getfield 19, 3) := by decide +kernel
theorem dX6_undo_21 : decode cX6_undo 21 = .ok (.invokevirtual 135, 3) := by decide +kernel
theorem dX6_undo_24 : decode cX6_undo 24 = .ok (.aload_n 0, 1) := by decide +kernel
theorem dX6_undo_25 : decode cX6_undo 25 = .ok (.invokevirtual 97, 3) := by decide +kernel
theorem dX6_undo_28 : decode cX6_undo 28 = .ok (.aload_n 0, 1) := by decide +kernel
theorem dX6_undo_29 : decode cX6_undo 29 = .ok (.getfield 31, 3) := by decide +kernel
theorem dX6_undo_32 : decode cX6_undo 32 = .ok (.getfield 96, 3) := by decide +kernel
theorem dX6_undo_35 : decode cX6_undo 35 = .ok (.ireturn, 1) := by decide +kernel
theorem dX6_largest_0 : decode cX6_largest 0 = .ok (.aload_n 0, 1) := by decide +kernel
theorem dX6_largest_1 : decode cX6_largest 1 = .ok (.iload_n 1, 1) := by decide +kernel
theorem dX6_largest_2 : decode cX6_largest 2 = .ok (.iload_n 2, 1) := by decide +kernel
theorem dX6_largest_3 : decode cX6_largest 3 = .ok (.invokevirtual 138, 3) := by decide +kernel
theorem dX6_largest_6 : decode cX6_largest 6 = .ok (.ifCond .eq 15, 3) := by decide +kernel
theorem dX6_largest_9 : decode cX6_largest 9 = .ok (.aload_n 0, 1) := by decide +kernel
theorem dX6_largest_10 : decode cX6_largest 10 = .ok (.invokevirtual 141, 3) := by decide +kernel
theorem dX6_largest_13 : decode cX6_largest 13 = .ok (.iload_n 1, 1) := by decide +kernel
theorem dX6_largest_14 : decode cX6_largest 14 = .ok (.iload_n 2, 1) := by decide +kernel
theorem dX6_largest_15 : decode cX6_largest 15 = .ok (.invokevirtual 145, 3) := by decide +kernel
theorem dX6_largest_18 : decode cX6_largest 18 = .ok (.goto 4, 3) := by decide +kernel
theorem dX6_largest_21 : decode cX6_largest 21 = .ok (.iconst (-1), 1) := by decide +kernel
theorem dX6_largest_22 : decode cX6_largest 22 = .ok (.ireturn, 1) := by decide +kernel
theorem dX6_meets_0 : decode cX6_meets 0 = .ok (.aload_n 0, 1) := by decide +kernel
theorem dX6_meets_1 : decode cX6_meets 1 = .ok (.iload_n 1, 1) := by decide +kernel
theorem dX6_meets_2 : decode cX6_meets 2 = .ok (.invokevirtual 100, 3) := by decide +kernel
theorem dX6_meets_5 : decode cX6_meets 5 = .ok (.ifCond .eq 12, 3) := by decide +kernel
theorem dX6_meets_8 : decode cX6_meets 8 = .ok (.aload_n 0, 1) := by decide +kernel
theorem dX6_meets_9 : decode cX6_meets 9 = .ok (.iload_n 2, 1) := by decide +kernel
theorem dX6_meets_10 : decode cX6_meets 10 = .ok (.iload_n 3, 1) := by decide +kernel
theorem dX6_meets_11 : decode cX6_meets 11 = .ok (.invokevirtual 138, 3) := by decide +kernel
theorem dX6_meets_14 : decode cX6_meets 14 = .ok (.ifCond .ne 5, 3) := by decide +kernel
theorem dX6_meets_17 : decode cX6_meets 17 = .ok (.iconst (-1), 1) := by decide +kernel
theorem dX6_meets_18 : decode cX6_meets 18 = .ok (.ireturn, 1) := by decide +kernel
theorem dX6_meets_19 : decode cX6_meets 19 = .ok (.aload_n 0, 1) := by decide +kernel
theorem dX6_meets_20 : decode cX6_meets 20 = .ok (.invokevirtual 141, 3) := by decide +kernel
theorem dX6_meets_23 : decode cX6_meets 23 = .ok (.iload_n 1, 1) := by decide +kernel
theorem dX6_meets_24 : decode cX6_meets 24 = .ok (.iload_n 2, 1) := by decide +kernel
theorem dX6_meets_25 : decode cX6_meets 25 = .ok (.iload_n 3, 1) := by decide +kernel
theorem dX6_meets_26 : decode cX6_meets 26 = .ok (.invokevirtual 148, 3) := by decide +kernel
theorem dX6_meets_29 : decode cX6_meets 29 = .ok (.ireturn, 1) := by decide +kernel
theorem dX6_shape_0 : decode cX6_shape 0 = .ok (.aload_n 0, 1) := by decide +kernel
theorem dX6_shape_1 : decode cX6_shape 1 = .ok (.invokevirtual 141, 3) := by decide +kernel
theorem dX6_shape_4 : decode cX6_shape 4 = .ok (.astore_n 3, 1) := by decide +kernel
theorem dX6_shape_5 : decode cX6_shape 5 = .ok (.iload_n 1, 1) := by decide +kernel
theorem dX6_shape_6 : decode cX6_shape 6 = .ok (.ifCond .lt 11, 3) := by decide +kernel
theorem dX6_shape_9 : decode cX6_shape 9 = .ok (.iload_n 1, 1) := by decide +kernel
theorem dX6_shape_10 : decode cX6_shape 10 = .ok (.aload_n 3, 1) := by decide +kernel
theorem dX6_shape_11 : decode cX6_shape 11 = .ok (.getfield 152, 3) := by decide +kernel
theorem dX6_shape_14 : decode cX6_shape 14 = .ok (.if_icmp .lt 5, 3) := by decide +kernel
theorem dX6_shape_17 : decode cX6_shape 17 = .ok (.iconst (-1), 1) := by decide +kernel
theorem dX6_shape_18 : decode cX6_shape 18 = .ok (.ireturn, 1) := by decide +kernel
theorem dX6_shape_19 : decode cX6_shape 19 = .ok (.iload_n 2, 1) := by decide +kernel
theorem dX6_shape_20 : decode cX6_shape 20 = .ok (.tableswitch 62 0 3 #[32, 39, 46, 53], 32) := by decide +kernel
theorem dX6_shape_52 : decode cX6_shape 52 = .ok (.aload_n 3, 1) := by decide +kernel
theorem dX6_shape_53 : decode cX6_shape 53 = .ok (.getfield 155, 3) := by decide +kernel
theorem dX6_shape_56 : decode cX6_shape 56 = .ok (.iload_n 1, 1) := by decide +kernel
theorem dX6_shape_57 : decode cX6_shape 57 = .ok (.iaload, 1) := by decide +kernel
theorem dX6_shape_58 : decode cX6_shape 58 = .ok (.ireturn, 1) := by decide +kernel
theorem dX6_shape_59 : decode cX6_shape 59 = .ok (.aload_n 3, 1) := by decide +kernel
theorem dX6_shape_60 : decode cX6_shape 60 = .ok (.getfield 158, 3) := by decide +kernel
theorem dX6_shape_63 : decode cX6_shape 63 = .ok (.iload_n 1, 1) := by decide +kernel
theorem dX6_shape_64 : decode cX6_shape 64 = .ok (.iaload, 1) := by decide +kernel
theorem dX6_shape_65 : decode cX6_shape 65 = .ok (.ireturn, 1) := by decide +kernel
theorem dX6_shape_66 : decode cX6_shape 66 = .ok (.aload_n 3, 1) := by decide +kernel
theorem dX6_shape_67 : decode cX6_shape 67 = .ok (.getfield 161, 3) := by decide +kernel
theorem dX6_shape_70 : decode cX6_shape 70 = .ok (.iload_n 1, 1) := by decide +kernel
theorem dX6_shape_71 : decode cX6_shape 71 = .ok (.iaload, 1) := by decide +kernel
theorem dX6_shape_72 : decode cX6_shape 72 = .ok (.ireturn, 1) := by decide +kernel
theorem dX6_shape_73 : decode cX6_shape 73 = .ok (.aload_n 3, 1) := by decide +kernel
theorem dX6_shape_74 : decode cX6_shape 74 = .ok (.iload_n 1, 1) := by decide +kernel
theorem dX6_shape_75 : decode cX6_shape 75 = .ok (.invokevirtual 164, 3) := by decide +kernel
theorem dX6_shape_78 : decode cX6_shape 78 = .ok (.bipush 100, 2) := by decide +kernel
theorem dX6_shape_80 : decode cX6_shape 80 = .ok (.iadd, 1) := by decide +kernel
theorem dX6_shape_81 : decode cX6_shape 81 = .ok (.ireturn, 1) := by decide +kernel
theorem dX6_shape_82 : decode cX6_shape 82 = .ok (.iconst (-1), 1) := by decide +kernel
theorem dX6_shape_83 : decode cX6_shape 83 = .ok (.ireturn, 1) := by decide +kernel
theorem dX6_place_0 : decode cX6_place 0 = .ok (.iload_n 1, 1) := by decide +kernel
theorem dX6_place_1 : decode cX6_place 1 = .ok (.iconst 1, 1) := by decide +kernel
theorem dX6_place_2 : decode cX6_place 2 = .ok (.if_icmp .lt 19, 3) := by decide +kernel
theorem dX6_place_5 : decode cX6_place 5 = .ok (.iload_n 1, 1) := by decide +kernel
theorem dX6_place_6 : decode cX6_place 6 = .ok (.aload_n 0, 1) := by decide +kernel
theorem dX6_place_7 : decode cX6_place 7 = .ok (.getfield 19, 3) := by decide +kernel
theorem dX6_place_10 : decode cX6_place 10 = .ok (.invokevirtual 167, 3) := by decide +kernel
theorem dX6_place_13 : decode cX6_place 13 = .ok (.if_icmp .gt 8, 3) := by decide +kernel
theorem dX6_place_16 : decode cX6_place 16 = .ok (.iload_n 2, 1) := by decide +kernel
theorem dX6_place_17 : decode cX6_place 17 = .ok (.iconst (-1), 1) := by decide +kernel
theorem dX6_place_18 : decode cX6_place 18 = .ok (.if_icmp .ge 5, 3) := by decide +kernel
theorem dX6_place_21 : decode cX6_place 21 = .ok (.iconst (-1), 1) := by decide +kernel
theorem dX6_place_22 : decode cX6_place 22 = .ok (.ireturn, 1) := by decide +kernel
theorem dX6_place_23 : decode cX6_place 23 = .ok (.iload_n 2, 1) := by decide +kernel
theorem dX6_place_24 : decode cX6_place 24 = .ok (.iconst (-1), 1) := by decide +kernel
theorem dX6_place_25 : decode cX6_place 25 = .ok (.if_icmp .ne 14, 3) := by decide +kernel
theorem dX6_place_28 : decode cX6_place 28 = .ok (.aload_n 0, 1) := by decide +kernel
theorem dX6_place_29 : decode cX6_place 29 = .ok (.invokevirtual 141, 3) := by decide +kernel
theorem dX6_place_32 : decode cX6_place 32 = .ok (.iload_n 1, 1) := by decide +kernel
theorem dX6_place_33 : decode cX6_place 33 = .ok (.invokevirtual 171, 3) := by decide +kernel
theorem dX6_place_36 : decode cX6_place 36 = .ok (.goto 12, 3) := by decide +kernel
theorem dX6_place_39 : decode cX6_place 39 = .ok (.aload_n 0, 1) := by decide +kernel
theorem dX6_place_40 : decode cX6_place 40 = .ok (.invokevirtual 141, 3) := by decide +kernel
theorem dX6_place_43 : decode cX6_place 43 = .ok (.iload_n 1, 1) := by decide +kernel
theorem dX6_place_44 : decode cX6_place 44 = .ok (.iload_n 2, 1) := by decide +kernel
theorem dX6_place_45 : decode cX6_place 45 = .ok (.invokevirtual 174, 3) := by decide +kernel
theorem dX6_place_48 : decode cX6_place 48 = .ok (.ireturn, 1) := by decide +kernel
theorem dX6_best_0 : decode cX6_best 0 = .ok (.iload_n 1, 1) := by decide +kernel
theorem dX6_best_1 : decode cX6_best 1 = .ok (.ifCond .lt 8, 3) := by decide +kernel
theorem dX6_best_4 : decode cX6_best 4 = .ok (.iload_n 1, 1) := by decide +kernel
theorem dX6_best_5 : decode cX6_best 5 = .ok (.iconst 1, 1) := by decide +kernel
theorem dX6_best_6 : decode cX6_best 6 = .ok (.if_icmp .le 5, 3) := by decide +kernel
theorem dX6_best_9 : decode cX6_best 9 = .ok (.iconst (-1), 1) := by decide +kernel
theorem dX6_best_10 : decode cX6_best 10 = .ok (.ireturn, 1) := by decide +kernel
theorem dX6_best_11 : decode cX6_best 11 = .ok (.aload_n 0, 1) := by decide +kernel
theorem dX6_best_12 : decode cX6_best 12 = .ok (.invokevirtual 141, 3) := by decide +kernel
theorem dX6_best_15 : decode cX6_best 15 = .ok (.invokevirtual 177, 3) := by decide +kernel
theorem dX6_best_18 : decode cX6_best 18 = .ok (.istore_n 2, 1) := by decide +kernel
theorem dX6_best_19 : decode cX6_best 19 = .ok (.iload_n 2, 1) := by decide +kernel
theorem dX6_best_20 : decode cX6_best 20 = .ok (.ifCond .ge 6, 3) := by decide +kernel
theorem dX6_best_23 : decode cX6_best 23 = .ok (.bipush (-4), 2) := by decide +kernel
theorem dX6_best_25 : decode cX6_best 25 = .ok (.ireturn, 1) := by decide +kernel
theorem dX6_best_26 : decode cX6_best 26 = .ok (.iload_n 1, 1) := by decide +kernel
theorem dX6_best_27 : decode cX6_best 27 = .ok (.ifCond .ne 7, 3) := by decide +kernel
theorem dX6_best_30 : decode cX6_best 30 = .ok (.iload_n 2, 1) := by decide +kernel
theorem dX6_best_31 : decode cX6_best 31 = .ok (.goto 14, 3) := by decide +kernel
theorem dX6_best_34 : decode cX6_best 34 = .ok (.aload_n 0, 1) := by decide +kernel
theorem dX6_best_35 : decode cX6_best 35 = .ok (.invokevirtual 141, 3) := by decide +kernel
theorem dX6_best_38 : decode cX6_best 38 = .ok (.iload_n 2, 1) := by decide +kernel
theorem dX6_best_39 : decode cX6_best 39 = .ok (.invokevirtual 164, 3) := by decide +kernel
theorem dX6_best_42 : decode cX6_best 42 = .ok (.bipush 100, 2) := by decide +kernel
theorem dX6_best_44 : decode cX6_best 44 = .ok (.iadd, 1) := by decide +kernel
theorem dX6_best_45 : decode cX6_best 45 = .ok (.ireturn, 1) := by decide +kernel
theorem dX6_parted_0 : decode cX6_parted 0 = .ok (.iload_n 1, 1) := by decide +kernel
theorem dX6_parted_1 : decode cX6_parted 1 = .ok (.ifCond .lt 12, 3) := by decide +kernel
theorem dX6_parted_4 : decode cX6_parted 4 = .ok (.iload_n 2, 1) := by decide +kernel
theorem dX6_parted_5 : decode cX6_parted 5 = .ok (.ifCond .lt 8, 3) := by decide +kernel
theorem dX6_parted_8 : decode cX6_parted 8 = .ok (.iload_n 2, 1) := by decide +kernel
theorem dX6_parted_9 : decode cX6_parted 9 = .ok (.iconst 2, 1) := by decide +kernel
theorem dX6_parted_10 : decode cX6_parted 10 = .ok (.if_icmp .le 5, 3) := by decide +kernel
theorem dX6_parted_13 : decode cX6_parted 13 = .ok (.iconst (-1), 1) := by decide +kernel
theorem dX6_parted_14 : decode cX6_parted 14 = .ok (.ireturn, 1) := by decide +kernel
theorem dX6_parted_15 : decode cX6_parted 15 = .ok (.aload_n 0, 1) := by decide +kernel
theorem dX6_parted_16 : decode cX6_parted 16 = .ok (.getfield 51, 3) := by decide +kernel
theorem dX6_parted_19 : decode cX6_parted 19 = .ok (.aload_n 0, 1) := by decide +kernel
theorem dX6_parted_20 : decode cX6_parted 20 = .ok (.getfield 19, 3) := by decide +kernel
theorem dX6_parted_23 : decode cX6_parted 23 = .ok (.aload_n 0, 1) := by decide +kernel
theorem dX6_parted_24 : decode cX6_parted 24 = .ok (.getfield 45, 3) := by decide +kernel
theorem dX6_parted_27 : decode cX6_parted 27 = .ok (.invokevirtual 180, 3) := by decide +kernel
theorem dX6_parted_30 : decode cX6_parted 30 = .ok (.iload_n 1, 1) := by decide +kernel
theorem dX6_parted_31 : decode cX6_parted 31 = .ok (.aload_n 0, 1) := by decide +kernel
theorem dX6_parted_32 : decode cX6_parted 32 = .ok (.getfield 51, 3) := by decide +kernel
theorem dX6_parted_35 : decode cX6_parted 35 = .ok (.getfield 184, 3) := by decide +kernel
theorem dX6_parted_38 : decode cX6_parted 38 = .ok (.if_icmp .lt 6, 3) := by decide +kernel
theorem dX6_parted_41 : decode cX6_parted 41 = .ok (.bipush (-4), 2) := by decide +kernel
theorem dX6_parted_43 : decode cX6_parted 43 = .ok (.ireturn, 1) := by decide +kernel
theorem dX6_parted_44 : decode cX6_parted 44 = .ok (.iload_n 2, 1) := by decide +kernel
theorem dX6_parted_45 : decode cX6_parted 45 = .ok (.ifCond .ne 13, 3) := by decide +kernel
theorem dX6_parted_48 : decode cX6_parted 48 = .ok (.aload_n 0, 1) := by decide +kernel
theorem dX6_parted_49 : decode cX6_parted 49 = .ok (.getfield 51, 3) := by decide +kernel
theorem dX6_parted_52 : decode cX6_parted 52 = .ok (.getfield 185, 3) := by decide +kernel
theorem dX6_parted_55 : decode cX6_parted 55 = .ok (.iload_n 1, 1) := by decide +kernel
theorem dX6_parted_56 : decode cX6_parted 56 = .ok (.iaload, 1) := by decide +kernel
theorem dX6_parted_57 : decode cX6_parted 57 = .ok (.ireturn, 1) := by decide +kernel
theorem dX6_parted_58 : decode cX6_parted 58 = .ok (.iload_n 2, 1) := by decide +kernel
theorem dX6_parted_59 : decode cX6_parted 59 = .ok (.iconst 1, 1) := by decide +kernel
theorem dX6_parted_60 : decode cX6_parted 60 = .ok (.if_icmp .ne 15, 3) := by decide +kernel
theorem dX6_parted_63 : decode cX6_parted 63 = .ok (.aload_n 0, 1) := by decide +kernel
theorem dX6_parted_64 : decode cX6_parted 64 = .ok (.getfield 51, 3) := by decide +kernel
theorem dX6_parted_67 : decode cX6_parted 67 = .ok (.getfield 188, 3) := by decide +kernel
theorem dX6_parted_70 : decode cX6_parted 70 = .ok (.iload_n 1, 1) := by decide +kernel
theorem dX6_parted_71 : decode cX6_parted 71 = .ok (.iaload, 1) := by decide +kernel
theorem dX6_parted_72 : decode cX6_parted 72 = .ok (.goto 12, 3) := by decide +kernel
theorem dX6_parted_75 : decode cX6_parted 75 = .ok (.aload_n 0, 1) := by decide +kernel
theorem dX6_parted_76 : decode cX6_parted 76 = .ok (.getfield 51, 3) := by decide +kernel
theorem dX6_parted_79 : decode cX6_parted 79 = .ok (.getfield 191, 3) := by decide +kernel
theorem dX6_parted_82 : decode cX6_parted 82 = .ok (.iload_n 1, 1) := by decide +kernel
theorem dX6_parted_83 : decode cX6_parted 83 = .ok (.iaload, 1) := by decide +kernel
theorem dX6_parted_84 : decode cX6_parted 84 = .ok (.ireturn, 1) := by decide +kernel
theorem dX6_parting_0 : decode cX6_parting 0 = .ok (.iload_n 1, 1) := by decide +kernel
theorem dX6_parting_1 : decode cX6_parting 1 = .ok (.ifCond .lt 8, 3) := by decide +kernel
theorem dX6_parting_4 : decode cX6_parting 4 = .ok (.iload_n 1, 1) := by decide +kernel
theorem dX6_parting_5 : decode cX6_parting 5 = .ok (.iconst 2, 1) := by decide +kernel
theorem dX6_parting_6 : decode cX6_parting 6 = .ok (.if_icmp .le 5, 3) := by decide +kernel
theorem dX6_parting_9 : decode cX6_parting 9 = .ok (.iconst (-1), 1) := by decide +kernel
theorem dX6_parting_10 : decode cX6_parting 10 = .ok (.ireturn, 1) := by decide +kernel
theorem dX6_parting_11 : decode cX6_parting 11 = .ok (.aload_n 0, 1) := by decide +kernel
theorem dX6_parting_12 : decode cX6_parting 12 = .ok (.getfield 51, 3) := by decide +kernel
theorem dX6_parting_15 : decode cX6_parting 15 = .ok (.aload_n 0, 1) := by decide +kernel
theorem dX6_parting_16 : decode cX6_parting 16 = .ok (.getfield 19, 3) := by decide +kernel
theorem dX6_parting_19 : decode cX6_parting 19 = .ok (.aload_n 0, 1) := by decide +kernel
theorem dX6_parting_20 : decode cX6_parting 20 = .ok (.getfield 45, 3) := by decide +kernel
theorem dX6_parting_23 : decode cX6_parting 23 = .ok (.invokevirtual 180, 3) := by decide +kernel
theorem dX6_parting_26 : decode cX6_parting 26 = .ok (.iload_n 1, 1) := by decide +kernel
theorem dX6_parting_27 : decode cX6_parting 27 = .ok (.ifCond .ne 11, 3) := by decide +kernel
theorem dX6_parting_30 : decode cX6_parting 30 = .ok (.aload_n 0, 1) := by decide +kernel
theorem dX6_parting_31 : decode cX6_parting 31 = .ok (.getfield 51, 3) := by decide +kernel
theorem dX6_parting_34 : decode cX6_parting 34 = .ok (.getfield 184, 3) := by decide +kernel
theorem dX6_parting_37 : decode cX6_parting 37 = .ok (.ireturn, 1) := by decide +kernel
theorem dX6_parting_38 : decode cX6_parting 38 = .ok (.iload_n 1, 1) := by decide +kernel
theorem dX6_parting_39 : decode cX6_parting 39 = .ok (.iconst 1, 1) := by decide +kernel
theorem dX6_parting_40 : decode cX6_parting 40 = .ok (.if_icmp .ne 13, 3) := by decide +kernel
theorem dX6_parting_43 : decode cX6_parting 43 = .ok (.aload_n 0, 1) := by decide +kernel
theorem dX6_parting_44 : decode cX6_parting 44 = .ok (.getfield 51, 3) := by decide +kernel
theorem dX6_parting_47 : decode cX6_parting 47 = .ok (.getfield 194, 3) := by decide +kernel
theorem dX6_parting_50 : decode cX6_parting 50 = .ok (.goto 10, 3) := by decide +kernel
theorem dX6_parting_53 : decode cX6_parting 53 = .ok (.aload_n 0, 1) := by decide +kernel
theorem dX6_parting_54 : decode cX6_parting 54 = .ok (.getfield 51, 3) := by decide +kernel
theorem dX6_parting_57 : decode cX6_parting 57 = .ok (.getfield 197, 3) := by decide +kernel
theorem dX6_parting_60 : decode cX6_parting 60 = .ok (.ireturn, 1) := by decide +kernel
theorem dX6_shapes_0 : decode cX6_shapes 0 = .ok (.iload_n 1, 1) := by decide +kernel
theorem dX6_shapes_1 : decode cX6_shapes 1 = .ok (.tableswitch 65 0 2 #[27, 35, 47], 27) := by decide +kernel
theorem dX6_shapes_28 : decode cX6_shapes 28 = .ok (.aload_n 0, 1) := by decide +kernel
theorem dX6_shapes_29 : decode cX6_shapes 29 = .ok (.invokevirtual 141, 3) := by decide +kernel
theorem dX6_shapes_32 : decode cX6_shapes 32 = .ok (.getfield 152, 3) := by decide +kernel
theorem dX6_shapes_35 : decode cX6_shapes 35 = .ok (.ireturn, 1) := by decide +kernel
theorem dX6_shapes_36 : decode cX6_shapes 36 = .ok (.aload_n 0, 1) := by decide +kernel
theorem dX6_shapes_37 : decode cX6_shapes 37 = .ok (.getfield 58, 3) := by decide +kernel
theorem dX6_shapes_40 : decode cX6_shapes 40 = .ok (.aload_n 0, 1) := by decide +kernel
theorem dX6_shapes_41 : decode cX6_shapes 41 = .ok (.invokevirtual 141, 3) := by decide +kernel
theorem dX6_shapes_44 : decode cX6_shapes 44 = .ok (.invokevirtual 200, 3) := by decide +kernel
theorem dX6_shapes_47 : decode cX6_shapes 47 = .ok (.ireturn, 1) := by decide +kernel
theorem dX6_shapes_48 : decode cX6_shapes 48 = .ok (.aload_n 0, 1) := by decide +kernel
theorem dX6_shapes_49 : decode cX6_shapes 49 = .ok (.getfield 19, 3) := by decide +kernel
theorem dX6_shapes_52 : decode cX6_shapes 52 = .ok (.invokevirtual 167, 3) := by decide +kernel
theorem dX6_shapes_55 : decode cX6_shapes 55 = .ok (.aload_n 0, 1) := by decide +kernel
theorem dX6_shapes_56 : decode cX6_shapes 56 = .ok (.invokevirtual 141, 3) := by decide +kernel
theorem dX6_shapes_59 : decode cX6_shapes 59 = .ok (.invokevirtual 204, 3) := by decide +kernel
theorem dX6_shapes_62 : decode cX6_shapes 62 = .ok (.iconst (-1), 1) := by decide +kernel
theorem dX6_shapes_63 : decode cX6_shapes 63 = .ok (.ixor, 1) := by decide +kernel
theorem dX6_shapes_64 : decode cX6_shapes 64 = .ok (.iand, 1) := by decide +kernel
theorem dX6_shapes_65 : decode cX6_shapes 65 = .ok (.ireturn, 1) := by decide +kernel
theorem dX6_shapes_66 : decode cX6_shapes 66 = .ok (.iconst (-1), 1) := by decide +kernel
theorem dX6_shapes_67 : decode cX6_shapes 67 = .ok (.ireturn, 1) := by decide +kernel
theorem dX6_link_0 : decode cX6_link 0 = .ok (.aload_n 0, 1) := by decide +kernel
theorem dX6_link_1 : decode cX6_link 1 = .ok (.iload_n 1, 1) := by decide +kernel
theorem dX6_link_2 : decode cX6_link 2 = .ok (.invokevirtual 100, 3) := by decide +kernel
theorem dX6_link_5 : decode cX6_link 5 = .ok (.ifCond .eq 16, 3) := by decide +kernel
theorem dX6_link_8 : decode cX6_link 8 = .ok (.aload_n 0, 1) := by decide +kernel
theorem dX6_link_9 : decode cX6_link 9 = .ok (.iload_n 2, 1) := by decide +kernel
theorem dX6_link_10 : decode cX6_link 10 = .ok (.invokevirtual 100, 3) := by decide +kernel
theorem dX6_link_13 : decode cX6_link 13 = .ok (.ifCond .eq 8, 3) := by decide +kernel
theorem dX6_link_16 : decode cX6_link 16 = .ok (.iload_n 1, 1) := by decide +kernel
theorem dX6_link_17 : decode cX6_link 17 = .ok (.iload_n 2, 1) := by decide +kernel
theorem dX6_link_18 : decode cX6_link 18 = .ok (.if_icmp .ne 5, 3) := by decide +kernel
theorem dX6_link_21 : decode cX6_link 21 = .ok (.iconst (-1), 1) := by decide +kernel
theorem dX6_link_22 : decode cX6_link 22 = .ok (.ireturn, 1) := by decide +kernel
theorem dX6_link_23 : decode cX6_link 23 = .ok (.aload_n 0, 1) := by decide +kernel
theorem dX6_link_24 : decode cX6_link 24 = .ok (.getfield 19, 3) := by decide +kernel
theorem dX6_link_27 : decode cX6_link 27 = .ok (.iload_n 2, 1) := by decide +kernel
theorem dX6_link_28 : decode cX6_link 28 = .ok (.invokevirtual 103, 3) := by decide +kernel
theorem dX6_link_31 : decode cX6_link 31 = .ok (.aload_n 0, 1) := by decide +kernel
theorem dX6_link_32 : decode cX6_link 32 = .ok (.getfield 19, 3) := by decide +kernel
theorem dX6_link_35 : decode cX6_link 35 = .ok (.iload_n 1, 1) := by decide +kernel
theorem dX6_link_36 : decode cX6_link 36 = .ok (.invokevirtual 103, 3) := by decide +kernel
theorem dX6_link_39 : decode cX6_link 39 = .ok (.isub, 1) := by decide +kernel
theorem dX6_link_40 : decode cX6_link 40 = .ok (.istore 4, 2) := by decide +kernel
theorem dX6_link_42 : decode cX6_link 42 = .ok (.aload_n 0, 1) := by decide +kernel
theorem dX6_link_43 : decode cX6_link 43 = .ok (.getfield 19, 3) := by decide +kernel
theorem dX6_link_46 : decode cX6_link 46 = .ok (.iload_n 2, 1) := by decide +kernel
theorem dX6_link_47 : decode cX6_link 47 = .ok (.invokevirtual 106, 3) := by decide +kernel
theorem dX6_link_50 : decode cX6_link 50 = .ok (.aload_n 0, 1) := by decide +kernel
theorem dX6_link_51 : decode cX6_link 51 = .ok (.getfield 19, 3) := by decide +kernel
theorem dX6_link_54 : decode cX6_link 54 = .ok (.iload_n 1, 1) := by decide +kernel
theorem dX6_link_55 : decode cX6_link 55 = .ok (.invokevirtual 106, 3) := by decide +kernel
theorem dX6_link_58 : decode cX6_link 58 = .ok (.isub, 1) := by decide +kernel
theorem dX6_link_59 : decode cX6_link 59 = .ok (.istore 5, 2) := by decide +kernel
theorem dX6_link_61 : decode cX6_link 61 = .ok (.aload_n 0, 1) := by decide +kernel
theorem dX6_link_62 : decode cX6_link 62 = .ok (.getfield 19, 3) := by decide +kernel
theorem dX6_link_65 : decode cX6_link 65 = .ok (.getfield 132, 3) := by decide +kernel
theorem dX6_link_68 : decode cX6_link 68 = .ok (.iconst 1, 1) := by decide +kernel
theorem dX6_link_69 : decode cX6_link 69 = .ok (.if_icmp .ne 12, 3) := by decide +kernel
theorem dX6_link_72 : decode cX6_link 72 = .ok (.iload 5, 2) := by decide +kernel
theorem dX6_link_74 : decode cX6_link 74 = .ok (.bipush 12, 2) := by decide +kernel
theorem dX6_link_76 : decode cX6_link 76 = .ok (.invokestatic 207, 3) := by decide +kernel
theorem dX6_link_79 : decode cX6_link 79 = .ok (.istore 5, 2) := by decide +kernel
theorem dX6_link_81 : decode cX6_link 81 = .ok (.iload_n 3, 1) := by decide +kernel
theorem dX6_link_82 : decode cX6_link 82 = .ok (.tableswitch 53 0 2 #[26, 32, 38], 26) := by decide +kernel
theorem dX6_link_108 : decode cX6_link 108 = .ok (.iload 4, 2) := by decide +kernel
theorem dX6_link_110 : decode cX6_link 110 = .ok (.bipush 50, 2) := by decide +kernel
theorem dX6_link_112 : decode cX6_link 112 = .ok (.iadd, 1) := by decide +kernel
theorem dX6_link_113 : decode cX6_link 113 = .ok (.ireturn, 1) := by decide +kernel
theorem dX6_link_114 : decode cX6_link 114 = .ok (.iload 5, 2) := by decide +kernel
theorem dX6_link_116 : decode cX6_link 116 = .ok (.bipush 50, 2) := by decide +kernel
theorem dX6_link_118 : decode cX6_link 118 = .ok (.iadd, 1) := by decide +kernel
theorem dX6_link_119 : decode cX6_link 119 = .ok (.ireturn, 1) := by decide +kernel
theorem dX6_link_120 : decode cX6_link 120 = .ok (.aload_n 0, 1) := by decide +kernel
theorem dX6_link_121 : decode cX6_link 121 = .ok (.invokevirtual 141, 3) := by decide +kernel
theorem dX6_link_124 : decode cX6_link 124 = .ok (.iload 4, 2) := by decide +kernel
theorem dX6_link_126 : decode cX6_link 126 = .ok (.iload 5, 2) := by decide +kernel
theorem dX6_link_128 : decode cX6_link 128 = .ok (.invokevirtual 145, 3) := by decide +kernel
theorem dX6_link_131 : decode cX6_link 131 = .ok (.invokestatic 212, 3) := by decide +kernel
theorem dX6_link_134 : decode cX6_link 134 = .ok (.ireturn, 1) := by decide +kernel
theorem dX6_link_135 : decode cX6_link 135 = .ok (.iconst (-1), 1) := by decide +kernel
theorem dX6_link_136 : decode cX6_link 136 = .ok (.ireturn, 1) := by decide +kernel
theorem dX6_better_0 : decode cX6_better 0 = .ok (.iload_n 1, 1) := by decide +kernel
theorem dX6_better_1 : decode cX6_better 1 = .ok (.ifCond .lt 8, 3) := by decide +kernel
theorem dX6_better_4 : decode cX6_better 4 = .ok (.iload_n 1, 1) := by decide +kernel
theorem dX6_better_5 : decode cX6_better 5 = .ok (.iconst 1, 1) := by decide +kernel
theorem dX6_better_6 : decode cX6_better 6 = .ok (.if_icmp .le 5, 3) := by decide +kernel
theorem dX6_better_9 : decode cX6_better 9 = .ok (.iconst (-1), 1) := by decide +kernel
theorem dX6_better_10 : decode cX6_better 10 = .ok (.ireturn, 1) := by decide +kernel
theorem dX6_better_11 : decode cX6_better 11 = .ok (.aload_n 0, 1) := by decide +kernel
theorem dX6_better_12 : decode cX6_better 12 = .ok (.getfield 19, 3) := by decide +kernel
theorem dX6_better_15 : decode cX6_better 15 = .ok (.getfield 89, 3) := by decide +kernel
theorem dX6_better_18 : decode cX6_better 18 = .ok (.bipush 14, 2) := by decide +kernel
theorem dX6_better_20 : decode cX6_better 20 = .ok (.if_icmp .lt 6, 3) := by decide +kernel
theorem dX6_better_23 : decode cX6_better 23 = .ok (.bipush (-4), 2) := by decide +kernel
theorem dX6_better_25 : decode cX6_better 25 = .ok (.ireturn, 1) := by decide +kernel
theorem dX6_better_26 : decode cX6_better 26 = .ok (.aload_n 0, 1) := by decide +kernel
theorem dX6_better_27 : decode cX6_better 27 = .ok (.getfield 217, 3) := by decide +kernel
theorem dX6_better_30 : decode cX6_better 30 = .ok (.ifCond .ne 7, 3) := by decide +kernel
theorem dX6_better_33 : decode cX6_better 33 = .ok (.aload_n 0, 1) := by decide +kernel
theorem dX6_better_34 : decode cX6_better 34 = .ok (.invokevirtual 221, 3) := by decide +kernel
theorem dX6_better_37 : decode cX6_better 37 = .ok (.iload_n 1, 1) := by decide +kernel
theorem dX6_better_38 : decode cX6_better 38 = .ok (.ifCond .ne 22, 3) := by decide +kernel
theorem dX6_better_41 : decode cX6_better 41 = .ok (.bipush 100, 2) := by decide +kernel
theorem dX6_better_43 : decode cX6_better 43 = .ok (.aload_n 0, 1) := by decide +kernel
theorem dX6_better_44 : decode cX6_better 44 = .ok (.getfield 224, 3) := by decide +kernel
theorem dX6_better_47 : decode cX6_better 47 = .ok (.bipush 12, 2) := by decide +kernel
theorem dX6_better_49 : decode cX6_better 49 = .ok (.idiv, 1) := by decide +kernel
theorem dX6_better_50 : decode cX6_better 50 = .ok (.imul, 1) := by decide +kernel
theorem dX6_better_51 : decode cX6_better 51 = .ok (.aload_n 0, 1) := by decide +kernel
theorem dX6_better_52 : decode cX6_better 52 = .ok (.getfield 224, 3) := by decide +kernel
theorem dX6_better_55 : decode cX6_better 55 = .ok (.bipush 12, 2) := by decide +kernel
theorem dX6_better_57 : decode cX6_better 57 = .ok (.irem, 1) := by decide +kernel
theorem dX6_better_58 : decode cX6_better 58 = .ok (.iadd, 1) := by decide +kernel
theorem dX6_better_59 : decode cX6_better 59 = .ok (.ireturn, 1) := by decide +kernel
theorem dX6_better_60 : decode cX6_better 60 = .ok (.aload_n 0, 1) := by decide +kernel
theorem dX6_better_61 : decode cX6_better 61 = .ok (.getfield 227, 3) := by decide +kernel
theorem dX6_better_64 : decode cX6_better 64 = .ok (.sipush (-10000), 3) := by decide +kernel
theorem dX6_better_67 : decode cX6_better 67 = .ok (.if_icmp .ne 8, 3) := by decide +kernel
theorem dX6_better_70 : decode cX6_better 70 = .ok (.bipush (-4), 2) := by decide +kernel
theorem dX6_better_72 : decode cX6_better 72 = .ok (.goto 10, 3) := by decide +kernel
theorem dX6_better_75 : decode cX6_better 75 = .ok (.aload_n 0, 1) := by decide +kernel
theorem dX6_better_76 : decode cX6_better 76 = .ok (.getfield 227, 3) := by decide +kernel
theorem dX6_better_79 : decode cX6_better 79 = .ok (.bipush 100, 2) := by decide +kernel
theorem dX6_better_81 : decode cX6_better 81 = .ok (.iadd, 1) := by decide +kernel
theorem dX6_better_82 : decode cX6_better 82 = .ok (.ireturn, 1) := by decide +kernel
theorem dX6_day_0 : decode cX6_day 0 = .ok (.iload_n 1, 1) := by decide +kernel
theorem dX6_day_1 : decode cX6_day 1 = .ok (.ifCond .lt 30, 3) := by decide +kernel
theorem dX6_day_4 : decode cX6_day 4 = .ok (.iload_n 1, 1) := by decide +kernel
theorem dX6_day_5 : decode cX6_day 5 = .ok (.sipush 9999, 3) := by decide +kernel
theorem dX6_day_8 : decode cX6_day 8 = .ok (.if_icmp .gt 23, 3) := by decide +kernel
theorem dX6_day_11 : decode cX6_day 11 = .ok (.iload_n 2, 1) := by decide +kernel
theorem dX6_day_12 : decode cX6_day 12 = .ok (.iconst 1, 1) := by decide +kernel
theorem dX6_day_13 : decode cX6_day 13 = .ok (.if_icmp .lt 18, 3) := by decide +kernel
theorem dX6_day_16 : decode cX6_day 16 = .ok (.iload_n 2, 1) := by decide +kernel
theorem dX6_day_17 : decode cX6_day 17 = .ok (.bipush 20, 2) := by decide +kernel
theorem dX6_day_19 : decode cX6_day 19 = .ok (.if_icmp .gt 12, 3) := by decide +kernel
theorem dX6_day_22 : decode cX6_day 22 = .ok (.iload_n 3, 1) := by decide +kernel
theorem dX6_day_23 : decode cX6_day 23 = .ok (.ifCond .lt 8, 3) := by decide +kernel
theorem dX6_day_26 : decode cX6_day 26 = .ok (.iload_n 3, 1) := by decide +kernel
theorem dX6_day_27 : decode cX6_day 27 = .ok (.iconst 2, 1) := by decide +kernel
theorem dX6_day_28 : decode cX6_day 28 = .ok (.if_icmp .le 5, 3) := by decide +kernel
theorem dX6_day_31 : decode cX6_day 31 = .ok (.iconst (-1), 1) := by decide +kernel
theorem dX6_day_32 : decode cX6_day 32 = .ok (.ireturn, 1) := by decide +kernel
theorem dX6_day_33 : decode cX6_day 33 = .ok (.aload_n 0, 1) := by decide +kernel
theorem dX6_day_34 : decode cX6_day 34 = .ok (.getfield 23, 3) := by decide +kernel
theorem dX6_day_37 : decode cX6_day 37 = .ok (.aload_n 0, 1) := by decide +kernel
theorem dX6_day_38 : decode cX6_day 38 = .ok (.getfield 19, 3) := by decide +kernel
theorem dX6_day_41 : decode cX6_day 41 = .ok (.invokevirtual 92, 3) := by decide +kernel
theorem dX6_day_44 : decode cX6_day 44 = .ok (.iconst 0, 1) := by decide +kernel
theorem dX6_day_45 : decode cX6_day 45 = .ok (.istore 4, 2) := by decide +kernel
theorem dX6_day_47 : decode cX6_day 47 = .ok (.iload 4, 2) := by decide +kernel
theorem dX6_day_49 : decode cX6_day 49 = .ok (.iload_n 2, 1) := by decide +kernel
theorem dX6_day_50 : decode cX6_day 50 = .ok (.if_icmp .ge 16, 3) := by decide +kernel
theorem dX6_day_53 : decode cX6_day 53 = .ok (.aload_n 0, 1) := by decide +kernel
theorem dX6_day_54 : decode cX6_day 54 = .ok (.iload_n 1, 1) := by decide +kernel
theorem dX6_day_55 : decode cX6_day 55 = .ok (.iload 4, 2) := by decide +kernel
theorem dX6_day_57 : decode cX6_day 57 = .ok (.invokevirtual 230, 3) := by decide +kernel
theorem dX6_day_60 : decode cX6_day 60 = .ok (.iinc 4 1, 3) := by decide +kernel
theorem dX6_day_63 : decode cX6_day 63 = .ok (.goto (-16), 3) := by decide +kernel
theorem dX6_day_66 : decode cX6_day 66 = .ok (.iload_n 3, 1) := by decide +kernel
theorem dX6_day_67 : decode cX6_day 67 = .ok (.ifCond .ne 11, 3) := by decide +kernel
theorem dX6_day_70 : decode cX6_day 70 = .ok (.aload_n 0, 1) := by decide +kernel
theorem dX6_day_71 : decode cX6_day 71 = .ok (.getfield 23, 3) := by decide +kernel
theorem dX6_day_74 : decode cX6_day 74 = .ok (.getfield 89, 3) := by decide +kernel
theorem dX6_day_77 : decode cX6_day 77 = .ok (.ireturn, 1) := by decide +kernel
theorem dX6_day_78 : decode cX6_day 78 = .ok (.iload_n 3, 1) := by decide +kernel
theorem dX6_day_79 : decode cX6_day 79 = .ok (.iconst 1, 1) := by decide +kernel
theorem dX6_day_80 : decode cX6_day 80 = .ok (.if_icmp .ne 29, 3) := by decide +kernel
theorem dX6_day_83 : decode cX6_day 83 = .ok (.aload_n 0, 1) := by decide +kernel
theorem dX6_day_84 : decode cX6_day 84 = .ok (.getfield 45, 3) := by decide +kernel
theorem dX6_day_87 : decode cX6_day 87 = .ok (.aload_n 0, 1) := by decide +kernel
theorem dX6_day_88 : decode cX6_day 88 = .ok (.getfield 23, 3) := by decide +kernel
theorem dX6_day_91 : decode cX6_day 91 = .ok (.aload_n 0, 1) := by decide +kernel
theorem dX6_day_92 : decode cX6_day 92 = .ok (.getfield 23, 3) := by decide +kernel
theorem dX6_day_95 : decode cX6_day 95 = .ok (.invokevirtual 167, 3) := by decide +kernel
theorem dX6_day_98 : decode cX6_day 98 = .ok (.invokevirtual 234, 3) := by decide +kernel
theorem dX6_day_101 : decode cX6_day 101 = .ok (.aload_n 0, 1) := by decide +kernel
theorem dX6_day_102 : decode cX6_day 102 = .ok (.getfield 45, 3) := by decide +kernel
theorem dX6_day_105 : decode cX6_day 105 = .ok (.getfield 152, 3) := by decide +kernel
theorem dX6_day_108 : decode cX6_day 108 = .ok (.ireturn, 1) := by decide +kernel
theorem dX6_day_109 : decode cX6_day 109 = .ok (.aload_n 0, 1) := by decide +kernel
theorem dX6_day_110 : decode cX6_day 110 = .ok (.getfield 51, 3) := by decide +kernel
theorem dX6_day_113 : decode cX6_day 113 = .ok (.aload_n 0, 1) := by decide +kernel
theorem dX6_day_114 : decode cX6_day 114 = .ok (.getfield 23, 3) := by decide +kernel
theorem dX6_day_117 : decode cX6_day 117 = .ok (.aload_n 0, 1) := by decide +kernel
theorem dX6_day_118 : decode cX6_day 118 = .ok (.getfield 45, 3) := by decide +kernel
theorem dX6_day_121 : decode cX6_day 121 = .ok (.invokevirtual 180, 3) := by decide +kernel
theorem dX6_day_124 : decode cX6_day 124 = .ok (.aload_n 0, 1) := by decide +kernel
theorem dX6_day_125 : decode cX6_day 125 = .ok (.getfield 51, 3) := by decide +kernel
theorem dX6_day_128 : decode cX6_day 128 = .ok (.getfield 197, 3) := by decide +kernel
theorem dX6_day_131 : decode cX6_day 131 = .ok (.ireturn, 1) := by decide +kernel
theorem dX6_keep_0 : decode cX6_keep 0 = .ok (.aload_n 0, 1) := by decide +kernel
theorem dX6_keep_1 : decode cX6_keep 1 = .ok (.getfield 35, 3) := by decide +kernel
theorem dX6_keep_4 : decode cX6_keep 4 = .ok (.getfield 96, 3) := by decide +kernel
theorem dX6_keep_7 : decode cX6_keep 7 = .ok (.iconst 2, 1) := by decide +kernel
theorem dX6_keep_8 : decode cX6_keep 8 = .ok (.if_icmp .lt 6, 3) := by decide +kernel
theorem dX6_keep_11 : decode cX6_keep 11 = .ok (.bipush (-3), 2) := by decide +kernel
theorem dX6_keep_13 : decode cX6_keep 13 = .ok (.ireturn, 1) := by decide +kernel
theorem dX6_keep_14 : decode cX6_keep 14 = .ok (.aload_n 0, 1) := by decide +kernel
theorem dX6_keep_15 : decode cX6_keep 15 = .ok (.getfield 35, 3) := by decide +kernel
theorem dX6_keep_18 : decode cX6_keep 18 = .ok (.aload_n 0, 1) := by decide +kernel
theorem dX6_keep_19 : decode cX6_keep 19 = .ok (.getfield 19, 3) := by decide +kernel
theorem dX6_keep_22 : decode cX6_keep 22 = .ok (.invokevirtual 238, 3) := by decide +kernel
theorem dX6_keep_25 : decode cX6_keep 25 = .ok (.aload_n 0, 1) := by decide +kernel
theorem dX6_keep_26 : decode cX6_keep 26 = .ok (.getfield 35, 3) := by decide +kernel
theorem dX6_keep_29 : decode cX6_keep 29 = .ok (.getfield 96, 3) := by decide +kernel
theorem dX6_keep_32 : decode cX6_keep 32 = .ok (.ireturn, 1) := by decide +kernel
theorem dX6_back_0 : decode cX6_back 0 = .ok (.aload_n 0, 1) := by decide +kernel
theorem dX6_back_1 : decode cX6_back 1 = .ok (.getfield 35, 3) := by decide +kernel
theorem dX6_back_4 : decode cX6_back 4 = .ok (.getfield 96, 3) := by decide +kernel
theorem dX6_back_7 : decode cX6_back 7 = .ok (.ifCond .ne 6, 3) := by decide +kernel
theorem dX6_back_10 : decode cX6_back 10 = .ok (.bipush (-2), 2) := by decide +kernel
theorem dX6_back_12 : decode cX6_back 12 = .ok (.ireturn, 1) := by decide +kernel
theorem dX6_back_13 : decode cX6_back 13 = .ok (.aload_n 0, 1) := by decide +kernel
theorem dX6_back_14 : decode cX6_back 14 = .ok (.getfield 35, 3) := by decide +kernel
theorem dX6_back_17 : decode cX6_back 17 = .ok (.aload_n 0, 1) := by decide +kernel
theorem dX6_back_18 : decode cX6_back 18 = .ok (.getfield 19, 3) := by decide +kernel
theorem dX6_back_21 : decode cX6_back 21 = .ok (.invokevirtual 135, 3) := by decide +kernel
theorem dX6_back_24 : decode cX6_back 24 = .ok (.aload_n 0, 1) := by decide +kernel
theorem dX6_back_25 : decode cX6_back 25 = .ok (.getfield 31, 3) := by decide +kernel
theorem dX6_back_28 : decode cX6_back 28 = .ok (.iconst 0, 1) := by decide +kernel
theorem dX6_back_29 : decode cX6_back 29 = .ok (.putfield 96, 3) := by decide +kernel
theorem dX6_back_32 : decode cX6_back 32 = .ok (.aload_n 0, 1) := by decide +kernel
theorem dX6_back_33 : decode cX6_back 33 = .ok (.invokevirtual 97, 3) := by decide +kernel
theorem dX6_back_36 : decode cX6_back 36 = .ok (.aload_n 0, 1) := by decide +kernel
theorem dX6_back_37 : decode cX6_back 37 = .ok (.getfield 35, 3) := by decide +kernel
theorem dX6_back_40 : decode cX6_back 40 = .ok (.getfield 96, 3) := by decide +kernel
theorem dX6_back_43 : decode cX6_back 43 = .ok (.ireturn, 1) := by decide +kernel
theorem dX6_count_0 : decode cX6_count 0 = .ok (.iload_n 1, 1) := by decide +kernel
theorem dX6_count_1 : decode cX6_count 1 = .ok (.tableswitch 75 0 4 #[35, 43, 51, 59, 67], 35) := by decide +kernel
theorem dX6_count_36 : decode cX6_count 36 = .ok (.aload_n 0, 1) := by decide +kernel
theorem dX6_count_37 : decode cX6_count 37 = .ok (.getfield 19, 3) := by decide +kernel
theorem dX6_count_40 : decode cX6_count 40 = .ok (.getfield 89, 3) := by decide +kernel
theorem dX6_count_43 : decode cX6_count 43 = .ok (.ireturn, 1) := by decide +kernel
theorem dX6_count_44 : decode cX6_count 44 = .ok (.aload_n 0, 1) := by decide +kernel
theorem dX6_count_45 : decode cX6_count 45 = .ok (.getfield 19, 3) := by decide +kernel
theorem dX6_count_48 : decode cX6_count 48 = .ok (.getfield 132, 3) := by decide +kernel
theorem dX6_count_51 : decode cX6_count 51 = .ok (.ireturn, 1) := by decide +kernel
theorem dX6_count_52 : decode cX6_count 52 = .ok (.aload_n 0, 1) := by decide +kernel
theorem dX6_count_53 : decode cX6_count 53 = .ok (.getfield 31, 3) := by decide +kernel
theorem dX6_count_56 : decode cX6_count 56 = .ok (.getfield 96, 3) := by decide +kernel
theorem dX6_count_59 : decode cX6_count 59 = .ok (.ireturn, 1) := by decide +kernel
theorem dX6_count_60 : decode cX6_count 60 = .ok (.aload_n 0, 1) := by decide +kernel
theorem dX6_count_61 : decode cX6_count 61 = .ok (.getfield 35, 3) := by decide +kernel
theorem dX6_count_64 : decode cX6_count 64 = .ok (.getfield 96, 3) := by decide +kernel
theorem dX6_count_67 : decode cX6_count 67 = .ok (.ireturn, 1) := by decide +kernel
theorem dX6_count_68 : decode cX6_count 68 = .ok (.aload_n 0, 1) := by decide +kernel
theorem dX6_count_69 : decode cX6_count 69 = .ok (.getfield 12, 3) := by decide +kernel
theorem dX6_count_72 : decode cX6_count 72 = .ok (.getfield 81, 3) := by decide +kernel
theorem dX6_count_75 : decode cX6_count 75 = .ok (.ireturn, 1) := by decide +kernel
theorem dX6_count_76 : decode cX6_count 76 = .ok (.iconst (-1), 1) := by decide +kernel
theorem dX6_count_77 : decode cX6_count 77 = .ok (.ireturn, 1) := by decide +kernel
theorem dX6_beginAct_0 : decode cX6_beginAct 0 = .ok (.aload_n 0, 1) := by decide +kernel
theorem dX6_beginAct_1 : decode cX6_beginAct 1 = .ok (.getfield 31, 3) := by decide +kernel
theorem dX6_beginAct_4 : decode cX6_beginAct 4 = .ok (.aload_n 0, 1) := by decide +kernel
theorem dX6_beginAct_5 : decode cX6_beginAct 5 = .ok (.getfield 19, 3) := by decide +kernel
theorem dX6_beginAct_8 : decode cX6_beginAct 8 = .ok (.invokevirtual 238, 3) := by decide +kernel
theorem dX6_beginAct_11 : decode cX6_beginAct 11 = .ok (.aload_n 0, 1) := by decide +kernel
theorem dX6_beginAct_12 : decode cX6_beginAct 12 = .ok (.invokevirtual 97, 3) := by decide +kernel
theorem dX6_beginAct_15 : decode cX6_beginAct 15 = .ok (.return_, 1) := by decide +kernel
theorem dX6_forgetFindings_0 : decode cX6_forgetFindings 0 = .ok (.aload_n 0, 1) := by decide +kernel
theorem dX6_forgetFindings_1 : decode cX6_forgetFindings 1 = .ok (.iconst 0, 1) := by decide +kernel
theorem dX6_forgetFindings_2 : decode cX6_forgetFindings 2 = .ok (.putfield 241, 3) := by decide +kernel
theorem dX6_forgetFindings_5 : decode cX6_forgetFindings 5 = .ok (.aload_n 0, 1) := by decide +kernel
theorem dX6_forgetFindings_6 : decode cX6_forgetFindings 6 = .ok (.iconst 0, 1) := by decide +kernel
theorem dX6_forgetFindings_7 : decode cX6_forgetFindings 7 = .ok (.putfield 217, 3) := by decide +kernel
theorem dX6_forgetFindings_10 : decode cX6_forgetFindings 10 = .ok (.return_, 1) := by decide +kernel
theorem dX6_wholeSearch_0 : decode cX6_wholeSearch 0 = .ok (.aload_n 0, 1) := by decide +kernel
theorem dX6_wholeSearch_1 : decode cX6_wholeSearch 1 = .ok (.getfield 241, 3) := by decide +kernel
theorem dX6_wholeSearch_4 : decode cX6_wholeSearch 4 = .ok (.ifCond .ne 26, 3) := by decide +kernel
theorem dX6_wholeSearch_7 : decode cX6_wholeSearch 7 = .ok (.aload_n 0, 1) := by decide +kernel
theorem dX6_wholeSearch_8 : decode cX6_wholeSearch 8 = .ok (.getfield 41, 3) := by decide +kernel
theorem dX6_wholeSearch_11 : decode cX6_wholeSearch 11 = .ok (.aload_n 0, 1) := by decide +kernel
theorem dX6_wholeSearch_12 : decode cX6_wholeSearch 12 = .ok (.getfield 19, 3) := by decide +kernel
theorem dX6_wholeSearch_15 : decode cX6_wholeSearch 15 = .ok (.aload_n 0, 1) := by decide +kernel
theorem dX6_wholeSearch_16 : decode cX6_wholeSearch 16 = .ok (.getfield 19, 3) := by decide +kernel
theorem dX6_wholeSearch_19 : decode cX6_wholeSearch 19 = .ok (.invokevirtual 167, 3) := by decide +kernel
theorem dX6_wholeSearch_22 : decode cX6_wholeSearch 22 = .ok (.invokevirtual 234, 3) := by decide +kernel
theorem dX6_wholeSearch_25 : decode cX6_wholeSearch 25 = .ok (.aload_n 0, 1) := by decide +kernel
theorem dX6_wholeSearch_26 : decode cX6_wholeSearch 26 = .ok (.iconst 1, 1) := by decide +kernel
theorem dX6_wholeSearch_27 : decode cX6_wholeSearch 27 = .ok (.putfield 241, 3) := by decide +kernel
theorem dX6_wholeSearch_30 : decode cX6_wholeSearch 30 = .ok (.aload_n 0, 1) := by decide +kernel
theorem dX6_wholeSearch_31 : decode cX6_wholeSearch 31 = .ok (.getfield 41, 3) := by decide +kernel
theorem dX6_wholeSearch_34 : decode cX6_wholeSearch 34 = .ok (.areturn, 1) := by decide +kernel
theorem dX6_findBetter_0 : decode cX6_findBetter 0 = .ok (.aload_n 0, 1) := by decide +kernel
theorem dX6_findBetter_1 : decode cX6_findBetter 1 = .ok (.iconst (-1), 1) := by decide +kernel
theorem dX6_findBetter_2 : decode cX6_findBetter 2 = .ok (.putfield 224, 3) := by decide +kernel
theorem dX6_findBetter_5 : decode cX6_findBetter 5 = .ok (.aload_n 0, 1) := by decide +kernel
theorem dX6_findBetter_6 : decode cX6_findBetter 6 = .ok (.sipush (-10000), 3) := by decide +kernel
theorem dX6_findBetter_9 : decode cX6_findBetter 9 = .ok (.putfield 227, 3) := by decide +kernel
theorem dX6_findBetter_12 : decode cX6_findBetter 12 = .ok (.aload_n 0, 1) := by decide +kernel
theorem dX6_findBetter_13 : decode cX6_findBetter 13 = .ok (.getfield 23, 3) := by decide +kernel
theorem dX6_findBetter_16 : decode cX6_findBetter 16 = .ok (.aload_n 0, 1) := by decide +kernel
theorem dX6_findBetter_17 : decode cX6_findBetter 17 = .ok (.getfield 19, 3) := by decide +kernel
theorem dX6_findBetter_20 : decode cX6_findBetter 20 = .ok (.invokevirtual 92, 3) := by decide +kernel
theorem dX6_findBetter_23 : decode cX6_findBetter 23 = .ok (.iconst 0, 1) := by decide +kernel
theorem dX6_findBetter_24 : decode cX6_findBetter 24 = .ok (.istore_n 1, 1) := by decide +kernel
theorem dX6_findBetter_25 : decode cX6_findBetter 25 = .ok (.iload_n 1, 1) := by decide +kernel
theorem dX6_findBetter_26 : decode cX6_findBetter 26 = .ok (.sipush 240, 3) := by decide +kernel
theorem dX6_findBetter_29 : decode cX6_findBetter 29 = .ok (.if_icmp .ge 104, 3) := by decide +kernel
theorem dX6_findBetter_32 : decode cX6_findBetter 32 = .ok (.aload_n 0, 1) := by decide +kernel
theorem dX6_findBetter_33 : decode cX6_findBetter 33 = .ok (.getfield 23, 3) := by decide +kernel
theorem dX6_findBetter_36 : decode cX6_findBetter 36 = .ok (.iload_n 1, 1) := by decide +kernel
theorem dX6_findBetter_37 : decode cX6_findBetter 37 = .ok (.invokevirtual 113, 3) := by decide +kernel
theorem dX6_findBetter_40 : decode cX6_findBetter 40 = .ok (.ifCond .ge 14, 3) := by decide +kernel
theorem dX6_findBetter_43 : decode cX6_findBetter 43 = .ok (.aload_n 0, 1) := by decide +kernel
theorem dX6_findBetter_44 : decode cX6_findBetter 44 = .ok (.getfield 23, 3) := by decide +kernel
theorem dX6_findBetter_47 : decode cX6_findBetter 47 = .ok (.iload_n 1, 1) := by decide +kernel
theorem dX6_findBetter_48 : decode cX6_findBetter 48 = .ok (.invokevirtual 73, 3) := by decide +kernel
theorem dX6_findBetter_51 : decode cX6_findBetter 51 = .ok (.goto 5, 3) := by decide +kernel
theorem dX6_findBetter_54 : decode cX6_findBetter 54 = .ok (.bipush (-4), 2) := by decide +kernel
theorem dX6_findBetter_56 : decode cX6_findBetter 56 = .ok (.istore_n 2, 1) := by decide +kernel
theorem dX6_findBetter_57 : decode cX6_findBetter 57 = .ok (.iload_n 2, 1) := by decide +kernel
theorem dX6_findBetter_58 : decode cX6_findBetter 58 = .ok (.ifCond .lt 69, 3) := by decide +kernel
theorem dX6_findBetter_61 : decode cX6_findBetter 61 = .ok (.aload_n 0, 1) := by decide +kernel
theorem dX6_findBetter_62 : decode cX6_findBetter 62 = .ok (.getfield 45, 3) := by decide +kernel
theorem dX6_findBetter_65 : decode cX6_findBetter 65 = .ok (.aload_n 0, 1) := by decide +kernel
theorem dX6_findBetter_66 : decode cX6_findBetter 66 = .ok (.getfield 23, 3) := by decide +kernel
theorem dX6_findBetter_69 : decode cX6_findBetter 69 = .ok (.aload_n 0, 1) := by decide +kernel
theorem dX6_findBetter_70 : decode cX6_findBetter 70 = .ok (.getfield 23, 3) := by decide +kernel
theorem dX6_findBetter_73 : decode cX6_findBetter 73 = .ok (.invokevirtual 167, 3) := by decide +kernel
theorem dX6_findBetter_76 : decode cX6_findBetter 76 = .ok (.invokevirtual 234, 3) := by decide +kernel
theorem dX6_findBetter_79 : decode cX6_findBetter 79 = .ok (.aload_n 0, 1) := by decide +kernel
theorem dX6_findBetter_80 : decode cX6_findBetter 80 = .ok (.getfield 45, 3) := by decide +kernel
theorem dX6_findBetter_83 : decode cX6_findBetter 83 = .ok (.aload_n 0, 1) := by decide +kernel
theorem dX6_findBetter_84 : decode cX6_findBetter 84 = .ok (.getfield 45, 3) := by decide +kernel
theorem dX6_findBetter_87 : decode cX6_findBetter 87 = .ok (.invokevirtual 177, 3) := by decide +kernel
theorem dX6_findBetter_90 : decode cX6_findBetter 90 = .ok (.invokevirtual 164, 3) := by decide +kernel
theorem dX6_findBetter_93 : decode cX6_findBetter 93 = .ok (.istore_n 3, 1) := by decide +kernel
theorem dX6_findBetter_94 : decode cX6_findBetter 94 = .ok (.aload_n 0, 1) := by decide +kernel
theorem dX6_findBetter_95 : decode cX6_findBetter 95 = .ok (.getfield 224, 3) := by decide +kernel
theorem dX6_findBetter_98 : decode cX6_findBetter 98 = .ok (.ifCond .lt 11, 3) := by decide +kernel
theorem dX6_findBetter_101 : decode cX6_findBetter 101 = .ok (.iload_n 3, 1) := by decide +kernel
theorem dX6_findBetter_102 : decode cX6_findBetter 102 = .ok (.aload_n 0, 1) := by decide +kernel
theorem dX6_findBetter_103 : decode cX6_findBetter 103 = .ok (.getfield 227, 3) := by decide +kernel
theorem dX6_findBetter_106 : decode cX6_findBetter 106 = .ok (.if_icmp .le 13, 3) := by decide +kernel
theorem dX6_findBetter_109 : decode cX6_findBetter 109 = .ok (.aload_n 0, 1) := by decide +kernel
theorem dX6_findBetter_110 : decode cX6_findBetter 110 = .ok (.iload_n 1, 1) := by decide +kernel
theorem dX6_findBetter_111 : decode cX6_findBetter 111 = .ok (.putfield 224, 3) := by decide +kernel
theorem dX6_findBetter_114 : decode cX6_findBetter 114 = .ok (.aload_n 0, 1) := by decide +kernel
theorem dX6_findBetter_115 : decode cX6_findBetter 115 = .ok (.iload_n 3, 1) := by decide +kernel
theorem dX6_findBetter_116 : decode cX6_findBetter 116 = .ok (.putfield 227, 3) := by decide +kernel
theorem dX6_findBetter_119 : decode cX6_findBetter 119 = .ok (.aload_n 0, 1) := by decide +kernel
theorem dX6_findBetter_120 : decode cX6_findBetter 120 = .ok (.getfield 23, 3) := by decide +kernel
theorem dX6_findBetter_123 : decode cX6_findBetter 123 = .ok (.iload_n 2, 1) := by decide +kernel
theorem dX6_findBetter_124 : decode cX6_findBetter 124 = .ok (.invokevirtual 119, 3) := by decide +kernel
theorem dX6_findBetter_127 : decode cX6_findBetter 127 = .ok (.iinc 1 1, 3) := by decide +kernel
theorem dX6_findBetter_130 : decode cX6_findBetter 130 = .ok (.goto (-105), 3) := by decide +kernel
theorem dX6_findBetter_133 : decode cX6_findBetter 133 = .ok (.aload_n 0, 1) := by decide +kernel
theorem dX6_findBetter_134 : decode cX6_findBetter 134 = .ok (.iconst 1, 1) := by decide +kernel
theorem dX6_findBetter_135 : decode cX6_findBetter 135 = .ok (.putfield 217, 3) := by decide +kernel
theorem dX6_findBetter_138 : decode cX6_findBetter 138 = .ok (.return_, 1) := by decide +kernel
theorem dX6_drawOnce_0 : decode cX6_drawOnce 0 = .ok (.ldc2_w 244, 3) := by decide +kernel
theorem dX6_drawOnce_3 : decode cX6_drawOnce 3 = .ok (.iload_n 1, 1) := by decide +kernel
theorem dX6_drawOnce_4 : decode cX6_drawOnce 4 = .ok (.i2l, 1) := by decide +kernel
theorem dX6_drawOnce_5 : decode cX6_drawOnce 5 = .ok (.lmul, 1) := by decide +kernel
theorem dX6_drawOnce_6 : decode cX6_drawOnce 6 = .ok (.ldc2_w 246, 3) := by decide +kernel
theorem dX6_drawOnce_9 : decode cX6_drawOnce 9 = .ok (.iload_n 2, 1) := by decide +kernel
theorem dX6_drawOnce_10 : decode cX6_drawOnce 10 = .ok (.i2l, 1) := by decide +kernel
theorem dX6_drawOnce_11 : decode cX6_drawOnce 11 = .ok (.lmul, 1) := by decide +kernel
theorem dX6_drawOnce_12 : decode cX6_drawOnce 12 = .ok (.ladd, 1) := by decide +kernel
theorem dX6_drawOnce_13 : decode cX6_drawOnce 13 = .ok (.lconst 1, 1) := by decide +kernel
theorem dX6_drawOnce_14 : decode cX6_drawOnce 14 = .ok (.ladd, 1) := by decide +kernel
theorem dX6_drawOnce_15 : decode cX6_drawOnce 15 = .ok (.lstore_n 3, 1) := by decide +kernel
theorem dX6_drawOnce_16 : decode cX6_drawOnce 16 = .ok (.lload_n 3, 1) := by decide +kernel
theorem dX6_drawOnce_17 : decode cX6_drawOnce 17 = .ok (.lload_n 3, 1) := by decide +kernel
theorem dX6_drawOnce_18 : decode cX6_drawOnce 18 = .ok (.lmul, 1) := by decide +kernel
theorem dX6_drawOnce_19 : decode cX6_drawOnce 19 = .ok (.ldc2_w 248, 3) := by decide +kernel
theorem dX6_drawOnce_22 : decode cX6_drawOnce 22 = .ok (.lrem, 1) := by decide +kernel
theorem dX6_drawOnce_23 : decode cX6_drawOnce 23 = .ok (.l2i, 1) := by decide +kernel
theorem dX6_drawOnce_24 : decode cX6_drawOnce 24 = .ok (.istore 5, 2) := by decide +kernel
theorem dX6_drawOnce_26 : decode cX6_drawOnce 26 = .ok (.iload 5, 2) := by decide +kernel
theorem dX6_drawOnce_28 : decode cX6_drawOnce 28 = .ok (.bipush 8, 2) := by decide +kernel
theorem dX6_drawOnce_30 : decode cX6_drawOnce 30 = .ok (.idiv, 1) := by decide +kernel
theorem dX6_drawOnce_31 : decode cX6_drawOnce 31 = .ok (.bipush 20, 2) := by decide +kernel
theorem dX6_drawOnce_33 : decode cX6_drawOnce 33 = .ok (.irem, 1) := by decide +kernel
theorem dX6_drawOnce_34 : decode cX6_drawOnce 34 = .ok (.iload 5, 2) := by decide +kernel
theorem dX6_drawOnce_36 : decode cX6_drawOnce 36 = .ok (.sipush 256, 3) := by decide +kernel
theorem dX6_drawOnce_39 : decode cX6_drawOnce 39 = .ok (.idiv, 1) := by decide +kernel
theorem dX6_drawOnce_40 : decode cX6_drawOnce 40 = .ok (.bipush 12, 2) := by decide +kernel
theorem dX6_drawOnce_42 : decode cX6_drawOnce 42 = .ok (.irem, 1) := by decide +kernel
theorem dX6_drawOnce_43 : decode cX6_drawOnce 43 = .ok (.invokestatic 69, 3) := by decide +kernel
theorem dX6_drawOnce_46 : decode cX6_drawOnce 46 = .ok (.istore 6, 2) := by decide +kernel
theorem dX6_drawOnce_48 : decode cX6_drawOnce 48 = .ok (.aload_n 0, 1) := by decide +kernel
theorem dX6_drawOnce_49 : decode cX6_drawOnce 49 = .ok (.getfield 23, 3) := by decide +kernel
theorem dX6_drawOnce_52 : decode cX6_drawOnce 52 = .ok (.iload 6, 2) := by decide +kernel
theorem dX6_drawOnce_54 : decode cX6_drawOnce 54 = .ok (.invokevirtual 113, 3) := by decide +kernel
theorem dX6_drawOnce_57 : decode cX6_drawOnce 57 = .ok (.istore 7, 2) := by decide +kernel
theorem dX6_drawOnce_59 : decode cX6_drawOnce 59 = .ok (.iload 7, 2) := by decide +kernel
theorem dX6_drawOnce_61 : decode cX6_drawOnce 61 = .ok (.ifCond .ge 16, 3) := by decide +kernel
theorem dX6_drawOnce_64 : decode cX6_drawOnce 64 = .ok (.aload_n 0, 1) := by decide +kernel
theorem dX6_drawOnce_65 : decode cX6_drawOnce 65 = .ok (.getfield 23, 3) := by decide +kernel
theorem dX6_drawOnce_68 : decode cX6_drawOnce 68 = .ok (.iload 6, 2) := by decide +kernel
theorem dX6_drawOnce_70 : decode cX6_drawOnce 70 = .ok (.invokevirtual 73, 3) := by decide +kernel
theorem dX6_drawOnce_73 : decode cX6_drawOnce 73 = .ok (.pop, 1) := by decide +kernel
theorem dX6_drawOnce_74 : decode cX6_drawOnce 74 = .ok (.goto 23, 3) := by decide +kernel
theorem dX6_drawOnce_77 : decode cX6_drawOnce 77 = .ok (.aload_n 0, 1) := by decide +kernel
theorem dX6_drawOnce_78 : decode cX6_drawOnce 78 = .ok (.getfield 23, 3) := by decide +kernel
theorem dX6_drawOnce_81 : decode cX6_drawOnce 81 = .ok (.getfield 89, 3) := by decide +kernel
theorem dX6_drawOnce_84 : decode cX6_drawOnce 84 = .ok (.iconst 1, 1) := by decide +kernel
theorem dX6_drawOnce_85 : decode cX6_drawOnce 85 = .ok (.if_icmp .le 12, 3) := by decide +kernel
theorem dX6_drawOnce_88 : decode cX6_drawOnce 88 = .ok (.aload_n 0, 1) := by decide +kernel
theorem dX6_drawOnce_89 : decode cX6_drawOnce 89 = .ok (.getfield 23, 3) := by decide +kernel
theorem dX6_drawOnce_92 : decode cX6_drawOnce 92 = .ok (.iload 7, 2) := by decide +kernel
theorem dX6_drawOnce_94 : decode cX6_drawOnce 94 = .ok (.invokevirtual 119, 3) := by decide +kernel
theorem dX6_drawOnce_97 : decode cX6_drawOnce 97 = .ok (.return_, 1) := by decide +kernel
theorem dX6_isNote_0 : decode cX6_isNote 0 = .ok (.iload_n 1, 1) := by decide +kernel
theorem dX6_isNote_1 : decode cX6_isNote 1 = .ok (.ifCond .lt 18, 3) := by decide +kernel
theorem dX6_isNote_4 : decode cX6_isNote 4 = .ok (.iload_n 1, 1) := by decide +kernel
theorem dX6_isNote_5 : decode cX6_isNote 5 = .ok (.aload_n 0, 1) := by decide +kernel
theorem dX6_isNote_6 : decode cX6_isNote 6 = .ok (.getfield 19, 3) := by decide +kernel
theorem dX6_isNote_9 : decode cX6_isNote 9 = .ok (.getfield 89, 3) := by decide +kernel
theorem dX6_isNote_12 : decode cX6_isNote 12 = .ok (.if_icmp .ge 7, 3) := by decide +kernel
theorem dX6_isNote_15 : decode cX6_isNote 15 = .ok (.iconst 1, 1) := by decide +kernel
theorem dX6_isNote_16 : decode cX6_isNote 16 = .ok (.goto 4, 3) := by decide +kernel
theorem dX6_isNote_19 : decode cX6_isNote 19 = .ok (.iconst 0, 1) := by decide +kernel
theorem dX6_isNote_20 : decode cX6_isNote 20 = .ok (.ireturn, 1) := by decide +kernel
theorem dX6_isShift_0 : decode cX6_isShift 0 = .ok (.aload_n 0, 1) := by decide +kernel
theorem dX6_isShift_1 : decode cX6_isShift 1 = .ok (.getfield 19, 3) := by decide +kernel
theorem dX6_isShift_4 : decode cX6_isShift 4 = .ok (.getfield 132, 3) := by decide +kernel
theorem dX6_isShift_7 : decode cX6_isShift 7 = .ok (.iconst 1, 1) := by decide +kernel
theorem dX6_isShift_8 : decode cX6_isShift 8 = .ok (.if_icmp .ne 7, 3) := by decide +kernel
theorem dX6_isShift_11 : decode cX6_isShift 11 = .ok (.iconst 0, 1) := by decide +kernel
theorem dX6_isShift_12 : decode cX6_isShift 12 = .ok (.goto 5, 3) := by decide +kernel
theorem dX6_isShift_15 : decode cX6_isShift 15 = .ok (.bipush (-11), 2) := by decide +kernel
theorem dX6_isShift_17 : decode cX6_isShift 17 = .ok (.istore_n 3, 1) := by decide +kernel
theorem dX6_isShift_18 : decode cX6_isShift 18 = .ok (.iload_n 1, 1) := by decide +kernel
theorem dX6_isShift_19 : decode cX6_isShift 19 = .ok (.bipush (-19), 2) := by decide +kernel
theorem dX6_isShift_21 : decode cX6_isShift 21 = .ok (.if_icmp .lt 24, 3) := by decide +kernel
theorem dX6_isShift_24 : decode cX6_isShift 24 = .ok (.iload_n 1, 1) := by decide +kernel
theorem dX6_isShift_25 : decode cX6_isShift 25 = .ok (.bipush 19, 2) := by decide +kernel
theorem dX6_isShift_27 : decode cX6_isShift 27 = .ok (.if_icmp .gt 18, 3) := by decide +kernel
theorem dX6_isShift_30 : decode cX6_isShift 30 = .ok (.iload_n 2, 1) := by decide +kernel
theorem dX6_isShift_31 : decode cX6_isShift 31 = .ok (.iload_n 3, 1) := by decide +kernel
theorem dX6_isShift_32 : decode cX6_isShift 32 = .ok (.if_icmp .lt 13, 3) := by decide +kernel
theorem dX6_isShift_35 : decode cX6_isShift 35 = .ok (.iload_n 2, 1) := by decide +kernel
theorem dX6_isShift_36 : decode cX6_isShift 36 = .ok (.bipush 11, 2) := by decide +kernel
theorem dX6_isShift_38 : decode cX6_isShift 38 = .ok (.if_icmp .gt 7, 3) := by decide +kernel
theorem dX6_isShift_41 : decode cX6_isShift 41 = .ok (.iconst 1, 1) := by decide +kernel
theorem dX6_isShift_42 : decode cX6_isShift 42 = .ok (.goto 4, 3) := by decide +kernel
theorem dX6_isShift_45 : decode cX6_isShift 45 = .ok (.iconst 0, 1) := by decide +kernel
theorem dX6_isShift_46 : decode cX6_isShift 46 = .ok (.ireturn, 1) := by decide +kernel
theorem dX6_isMove_0 : decode cX6_isMove 0 = .ok (.aload_n 0, 1) := by decide +kernel
theorem dX6_isMove_1 : decode cX6_isMove 1 = .ok (.iload_n 1, 1) := by decide +kernel
theorem dX6_isMove_2 : decode cX6_isMove 2 = .ok (.iload_n 2, 1) := by decide +kernel
theorem dX6_isMove_3 : decode cX6_isMove 3 = .ok (.invokevirtual 138, 3) := by decide +kernel
theorem dX6_isMove_6 : decode cX6_isMove 6 = .ok (.ifCond .eq 15, 3) := by decide +kernel
theorem dX6_isMove_9 : decode cX6_isMove 9 = .ok (.iload_n 1, 1) := by decide +kernel
theorem dX6_isMove_10 : decode cX6_isMove 10 = .ok (.ifCond .ne 7, 3) := by decide +kernel
theorem dX6_isMove_13 : decode cX6_isMove 13 = .ok (.iload_n 2, 1) := by decide +kernel
theorem dX6_isMove_14 : decode cX6_isMove 14 = .ok (.ifCond .eq 7, 3) := by decide +kernel
theorem dX6_isMove_17 : decode cX6_isMove 17 = .ok (.iconst 1, 1) := by decide +kernel
theorem dX6_isMove_18 : decode cX6_isMove 18 = .ok (.goto 4, 3) := by decide +kernel
theorem dX6_isMove_21 : decode cX6_isMove 21 = .ok (.iconst 0, 1) := by decide +kernel
theorem dX6_isMove_22 : decode cX6_isMove 22 = .ok (.ireturn, 1) := by decide +kernel
theorem dX6_staysWithin_0 : decode cX6_staysWithin 0 = .ok (.aload_n 0, 1) := by decide +kernel
theorem dX6_staysWithin_1 : decode cX6_staysWithin 1 = .ok (.getfield 19, 3) := by decide +kernel
theorem dX6_staysWithin_4 : decode cX6_staysWithin 4 = .ok (.iload_n 1, 1) := by decide +kernel
theorem dX6_staysWithin_5 : decode cX6_staysWithin 5 = .ok (.invokevirtual 103, 3) := by decide +kernel
theorem dX6_staysWithin_8 : decode cX6_staysWithin 8 = .ok (.iload_n 2, 1) := by decide +kernel
theorem dX6_staysWithin_9 : decode cX6_staysWithin 9 = .ok (.iadd, 1) := by decide +kernel
theorem dX6_staysWithin_10 : decode cX6_staysWithin 10 = .ok (.aload_n 0, 1) := by decide +kernel
theorem dX6_staysWithin_11 : decode cX6_staysWithin 11 = .ok (.getfield 19, 3) := by decide +kernel
theorem dX6_staysWithin_14 : decode cX6_staysWithin 14 = .ok (.iload_n 1, 1) := by decide +kernel
theorem dX6_staysWithin_15 : decode cX6_staysWithin 15 = .ok (.invokevirtual 106, 3) := by decide +kernel
theorem dX6_staysWithin_18 : decode cX6_staysWithin 18 = .ok (.iload_n 3, 1) := by decide +kernel
theorem dX6_staysWithin_19 : decode cX6_staysWithin 19 = .ok (.iadd, 1) := by decide +kernel
theorem dX6_staysWithin_20 : decode cX6_staysWithin 20 = .ok (.invokestatic 109, 3) := by decide +kernel
theorem dX6_staysWithin_23 : decode cX6_staysWithin 23 = .ok (.ireturn, 1) := by decide +kernel
theorem dX6_isWithin_0 : decode cX6_isWithin 0 = .ok (.iload_n 0, 1) := by decide +kernel
theorem dX6_isWithin_1 : decode cX6_isWithin 1 = .ok (.ifCond .lt 23, 3) := by decide +kernel
theorem dX6_isWithin_4 : decode cX6_isWithin 4 = .ok (.iload_n 0, 1) := by decide +kernel
theorem dX6_isWithin_5 : decode cX6_isWithin 5 = .ok (.bipush 20, 2) := by decide +kernel
theorem dX6_isWithin_7 : decode cX6_isWithin 7 = .ok (.if_icmp .ge 17, 3) := by decide +kernel
theorem dX6_isWithin_10 : decode cX6_isWithin 10 = .ok (.iload_n 1, 1) := by decide +kernel
theorem dX6_isWithin_11 : decode cX6_isWithin 11 = .ok (.ifCond .lt 13, 3) := by decide +kernel
theorem dX6_isWithin_14 : decode cX6_isWithin 14 = .ok (.iload_n 1, 1) := by decide +kernel
theorem dX6_isWithin_15 : decode cX6_isWithin 15 = .ok (.bipush 12, 2) := by decide +kernel
theorem dX6_isWithin_17 : decode cX6_isWithin 17 = .ok (.if_icmp .ge 7, 3) := by decide +kernel
theorem dX6_isWithin_20 : decode cX6_isWithin 20 = .ok (.iconst 1, 1) := by decide +kernel
theorem dX6_isWithin_21 : decode cX6_isWithin 21 = .ok (.goto 4, 3) := by decide +kernel
theorem dX6_isWithin_24 : decode cX6_isWithin 24 = .ok (.iconst 0, 1) := by decide +kernel
theorem dX6_isWithin_25 : decode cX6_isWithin 25 = .ok (.ireturn, 1) := by decide +kernel
theorem dX6_codeOf_0 : decode cX6_codeOf 0 = .ok (.iload_n 0, 1) := by decide +kernel
theorem dX6_codeOf_1 : decode cX6_codeOf 1 = .ok (.bipush 12, 2) := by decide +kernel
theorem dX6_codeOf_3 : decode cX6_codeOf 3 = .ok (.imul, 1) := by decide +kernel
theorem dX6_codeOf_4 : decode cX6_codeOf 4 = .ok (.iload_n 1, 1) := by decide +kernel
theorem dX6_codeOf_5 : decode cX6_codeOf 5 = .ok (.iadd, 1) := by decide +kernel
theorem dX6_codeOf_6 : decode cX6_codeOf 6 = .ok (.ireturn, 1) := by decide +kernel
end
section
theorem dX7_init_0 : decode cX7_init 0 = .ok (.aload_n 0, 1) := by decide +kernel
theorem dX7_init_1 : decode cX7_init 1 = .ok (.invokespecial 1, 3) := by decide +kernel
theorem dX7_init_4 : decode cX7_init 4 = .ok (.aload_n 0, 1) := by decide +kernel
theorem dX7_init_5 : decode cX7_init 5 = .ok (.bipush 30, 2) := by decide +kernel
theorem dX7_init_7 : decode cX7_init 7 = .ok (.newarray .int, 2) := by decide +kernel
theorem dX7_init_9 : decode cX7_init 9 = .ok (.putfield 7, 3) := by decide +kernel
theorem dX7_init_12 : decode cX7_init 12 = .ok (.aload_n 0, 1) := by decide +kernel
theorem dX7_init_13 : decode cX7_init 13 = .ok (.bipush 30, 2) := by decide +kernel
theorem dX7_init_15 : decode cX7_init 15 = .ok (.newarray .int, 2) := by decide +kernel
theorem dX7_init_17 : decode cX7_init 17 = .ok (.putfield 13, 3) := by decide +kernel
theorem dX7_init_20 : decode cX7_init 20 = .ok (.aload_n 0, 1) := by decide +kernel
theorem dX7_init_21 : decode cX7_init 21 = .ok (.bipush 30, 2) := by decide +kernel
theorem dX7_init_23 : decode cX7_init 23 = .ok (.newarray .int, 2) := by decide +kernel
theorem dX7_init_25 : decode cX7_init 25 = .ok (.putfield 16, 3) := by decide +kernel
theorem dX7_init_28 : decode cX7_init 28 = .ok (.aload_n 0, 1) := by decide +kernel
theorem dX7_init_29 : decode cX7_init 29 = .ok (.sipush 240, 3) := by decide +kernel
theorem dX7_init_32 : decode cX7_init 32 = .ok (.newarray .int, 2) := by decide +kernel
theorem dX7_init_34 : decode cX7_init 34 = .ok (.putfield 19, 3) := by decide +kernel
theorem dX7_init_37 : decode cX7_init 37 = .ok (.aload_n 0, 1) := by decide +kernel
theorem dX7_init_38 : decode cX7_init 38 = .ok (.bipush 60, 2) := by decide +kernel
theorem dX7_init_40 : decode cX7_init 40 = .ok (.newarray .int, 2) := by decide +kernel
theorem dX7_init_42 : decode cX7_init 42 = .ok (.putfield 22, 3) := by decide +kernel
theorem dX7_init_45 : decode cX7_init 45 = .ok (.aload_n 0, 1) := by decide +kernel
theorem dX7_init_46 : decode cX7_init 46 = .ok (.sipush 200, 3) := by decide +kernel
theorem dX7_init_49 : decode cX7_init 49 = .ok (.newarray .int, 2) := by decide +kernel
theorem dX7_init_51 : decode cX7_init 51 = .ok (.putfield 25, 3) := by decide +kernel
theorem dX7_init_54 : decode cX7_init 54 = .ok (.aload_n 0, 1) := by decide +kernel
theorem dX7_init_55 : decode cX7_init 55 = .ok (.sipush 240, 3) := by decide +kernel
theorem dX7_init_58 : decode cX7_init 58 = .ok (.newarray .int, 2) := by decide +kernel
theorem dX7_init_60 : decode cX7_init 60 = .ok (.putfield 28, 3) := by decide +kernel
theorem dX7_init_63 : decode cX7_init 63 = .ok (.aload_n 0, 1) := by decide +kernel
theorem dX7_init_64 : decode cX7_init 64 = .ok (.sipush 897, 3) := by decide +kernel
theorem dX7_init_67 : decode cX7_init 67 = .ok (.newarray .int, 2) := by decide +kernel
theorem dX7_init_69 : decode cX7_init 69 = .ok (.putfield 31, 3) := by decide +kernel
theorem dX7_init_72 : decode cX7_init 72 = .ok (.aload_n 0, 1) := by decide +kernel
theorem dX7_init_73 : decode cX7_init 73 = .ok (.sipush 448, 3) := by decide +kernel
theorem dX7_init_76 : decode cX7_init 76 = .ok (.newarray .int, 2) := by decide +kernel
theorem dX7_init_78 : decode cX7_init 78 = .ok (.putfield 34, 3) := by decide +kernel
theorem dX7_init_81 : decode cX7_init 81 = .ok (.aload_n 0, 1) := by decide +kernel
theorem dX7_init_82 : decode cX7_init 82 = .ok (.bipush 21, 2) := by decide +kernel
theorem dX7_init_84 : decode cX7_init 84 = .ok (.newarray .int, 2) := by decide +kernel
theorem dX7_init_86 : decode cX7_init 86 = .ok (.putfield 37, 3) := by decide +kernel
theorem dX7_init_89 : decode cX7_init 89 = .ok (.aload_n 0, 1) := by decide +kernel
theorem dX7_init_90 : decode cX7_init 90 = .ok (.sipush 16384, 3) := by decide +kernel
theorem dX7_init_93 : decode cX7_init 93 = .ok (.newarray .int, 2) := by decide +kernel
theorem dX7_init_95 : decode cX7_init 95 = .ok (.putfield 40, 3) := by decide +kernel
theorem dX7_init_98 : decode cX7_init 98 = .ok (.aload_n 0, 1) := by decide +kernel
theorem dX7_init_99 : decode cX7_init 99 = .ok (.sipush 448, 3) := by decide +kernel
theorem dX7_init_102 : decode cX7_init 102 = .ok (.newarray .int, 2) := by decide +kernel
theorem dX7_init_104 : decode cX7_init 104 = .ok (.putfield 43, 3) := by decide +kernel
theorem dX7_init_107 : decode cX7_init 107 = .ok (.aload_n 0, 1) := by decide +kernel
theorem dX7_init_108 : decode cX7_init 108 = .ok (.invokevirtual 46, 3) := by decide +kernel
theorem dX7_init_111 : decode cX7_init 111 = .ok (.aload_n 0, 1) := by decide +kernel
theorem dX7_init_112 : decode cX7_init 112 = .ok (.getfield 13, 3) := by decide +kernel
theorem dX7_init_115 : decode cX7_init 115 = .ok (.iconst 0, 1) := by decide +kernel
theorem dX7_init_116 : decode cX7_init 116 = .ok (.aload_n 0, 1) := by decide +kernel
theorem dX7_init_117 : decode cX7_init 117 = .ok (.getfield 7, 3) := by decide +kernel
theorem dX7_init_120 : decode cX7_init 120 = .ok (.iconst 0, 1) := by decide +kernel
theorem dX7_init_121 : decode cX7_init 121 = .ok (.invokestatic 49, 3) := by decide +kernel
theorem dX7_init_124 : decode cX7_init 124 = .ok (.return_, 1) := by decide +kernel
theorem dX7_begins_0 : decode cX7_begins 0 = .ok (.aload_n 0, 1) := by decide +kernel
theorem dX7_begins_1 : decode cX7_begins 1 = .ok (.getfield 13, 3) := by decide +kernel
theorem dX7_begins_4 : decode cX7_begins 4 = .ok (.iconst 0, 1) := by decide +kernel
theorem dX7_begins_5 : decode cX7_begins 5 = .ok (.iconst 2, 1) := by decide +kernel
theorem dX7_begins_6 : decode cX7_begins 6 = .ok (.invokestatic 53, 3) := by decide +kernel
theorem dX7_begins_9 : decode cX7_begins 9 = .ok (.pop, 1) := by decide +kernel
theorem dX7_begins_10 : decode cX7_begins 10 = .ok (.aload_n 0, 1) := by decide +kernel
theorem dX7_begins_11 : decode cX7_begins 11 = .ok (.getfield 13, 3) := by decide +kernel
theorem dX7_begins_14 : decode cX7_begins 14 = .ok (.iconst 1, 1) := by decide +kernel
theorem dX7_begins_15 : decode cX7_begins 15 = .ok (.iconst 4, 1) := by decide +kernel
theorem dX7_begins_16 : decode cX7_begins 16 = .ok (.invokestatic 53, 3) := by decide +kernel
theorem dX7_begins_19 : decode cX7_begins 19 = .ok (.pop, 1) := by decide +kernel
theorem dX7_begins_20 : decode cX7_begins 20 = .ok (.aload_n 0, 1) := by decide +kernel
theorem dX7_begins_21 : decode cX7_begins 21 = .ok (.getfield 13, 3) := by decide +kernel
theorem dX7_begins_24 : decode cX7_begins 24 = .ok (.iconst 2, 1) := by decide +kernel
theorem dX7_begins_25 : decode cX7_begins 25 = .ok (.iconst 5, 1) := by decide +kernel
theorem dX7_begins_26 : decode cX7_begins 26 = .ok (.invokestatic 53, 3) := by decide +kernel
theorem dX7_begins_29 : decode cX7_begins 29 = .ok (.pop, 1) := by decide +kernel
theorem dX7_begins_30 : decode cX7_begins 30 = .ok (.aload_n 0, 1) := by decide +kernel
theorem dX7_begins_31 : decode cX7_begins 31 = .ok (.getfield 13, 3) := by decide +kernel
theorem dX7_begins_34 : decode cX7_begins 34 = .ok (.iconst 4, 1) := by decide +kernel
theorem dX7_begins_35 : decode cX7_begins 35 = .ok (.iconst 4, 1) := by decide +kernel
theorem dX7_begins_36 : decode cX7_begins 36 = .ok (.invokestatic 53, 3) := by decide +kernel
theorem dX7_begins_39 : decode cX7_begins 39 = .ok (.pop, 1) := by decide +kernel
theorem dX7_begins_40 : decode cX7_begins 40 = .ok (.aload_n 0, 1) := by decide +kernel
theorem dX7_begins_41 : decode cX7_begins 41 = .ok (.getfield 13, 3) := by decide +kernel
theorem dX7_begins_44 : decode cX7_begins 44 = .ok (.iconst 5, 1) := by decide +kernel
theorem dX7_begins_45 : decode cX7_begins 45 = .ok (.bipush 6, 2) := by decide +kernel
theorem dX7_begins_47 : decode cX7_begins 47 = .ok (.invokestatic 53, 3) := by decide +kernel
theorem dX7_begins_50 : decode cX7_begins 50 = .ok (.pop, 1) := by decide +kernel
theorem dX7_begins_51 : decode cX7_begins 51 = .ok (.aload_n 0, 1) := by decide +kernel
theorem dX7_begins_52 : decode cX7_begins 52 = .ok (.getfield 13, 3) := by decide +kernel
theorem dX7_begins_55 : decode cX7_begins 55 = .ok (.bipush 6, 2) := by decide +kernel
theorem dX7_begins_57 : decode cX7_begins 57 = .ok (.bipush 7, 2) := by decide +kernel
theorem dX7_begins_59 : decode cX7_begins 59 = .ok (.invokestatic 53, 3) := by decide +kernel
theorem dX7_begins_62 : decode cX7_begins 62 = .ok (.pop, 1) := by decide +kernel
theorem dX7_begins_63 : decode cX7_begins 63 = .ok (.aload_n 0, 1) := by decide +kernel
theorem dX7_begins_64 : decode cX7_begins 64 = .ok (.getfield 13, 3) := by decide +kernel
theorem dX7_begins_67 : decode cX7_begins 67 = .ok (.bipush 8, 2) := by decide +kernel
theorem dX7_begins_69 : decode cX7_begins 69 = .ok (.iconst 2, 1) := by decide +kernel
theorem dX7_begins_70 : decode cX7_begins 70 = .ok (.invokestatic 53, 3) := by decide +kernel
theorem dX7_begins_73 : decode cX7_begins 73 = .ok (.pop, 1) := by decide +kernel
theorem dX7_begins_74 : decode cX7_begins 74 = .ok (.aload_n 0, 1) := by decide +kernel
theorem dX7_begins_75 : decode cX7_begins 75 = .ok (.getfield 13, 3) := by decide +kernel
theorem dX7_begins_78 : decode cX7_begins 78 = .ok (.bipush 9, 2) := by decide +kernel
theorem dX7_begins_80 : decode cX7_begins 80 = .ok (.iconst 4, 1) := by decide +kernel
theorem dX7_begins_81 : decode cX7_begins 81 = .ok (.invokestatic 53, 3) := by decide +kernel
theorem dX7_begins_84 : decode cX7_begins 84 = .ok (.pop, 1) := by decide +kernel
theorem dX7_begins_85 : decode cX7_begins 85 = .ok (.aload_n 0, 1) := by decide +kernel
theorem dX7_begins_86 : decode cX7_begins 86 = .ok (.getfield 13, 3) := by decide +kernel
theorem dX7_begins_89 : decode cX7_begins 89 = .ok (.bipush 10, 2) := by decide +kernel
theorem dX7_begins_91 : decode cX7_begins 91 = .ok (.bipush 6, 2) := by decide +kernel
theorem dX7_begins_93 : decode cX7_begins 93 = .ok (.invokestatic 53, 3) := by decide +kernel
theorem dX7_begins_96 : decode cX7_begins 96 = .ok (.pop, 1) := by decide +kernel
theorem dX7_begins_97 : decode cX7_begins 97 = .ok (.aload_n 0, 1) := by decide +kernel
theorem dX7_begins_98 : decode cX7_begins 98 = .ok (.getfield 13, 3) := by decide +kernel
theorem dX7_begins_101 : decode cX7_begins 101 = .ok (.bipush 12, 2) := by decide +kernel
theorem dX7_begins_103 : decode cX7_begins 103 = .ok (.iconst 0, 1) := by decide +kernel
theorem dX7_begins_104 : decode cX7_begins 104 = .ok (.invokestatic 53, 3) := by decide +kernel
theorem dX7_begins_107 : decode cX7_begins 107 = .ok (.pop, 1) := by decide +kernel
theorem dX7_begins_108 : decode cX7_begins 108 = .ok (.aload_n 0, 1) := by decide +kernel
theorem dX7_begins_109 : decode cX7_begins 109 = .ok (.getfield 13, 3) := by decide +kernel
theorem dX7_begins_112 : decode cX7_begins 112 = .ok (.bipush 13, 2) := by decide +kernel
theorem dX7_begins_114 : decode cX7_begins 114 = .ok (.iconst 2, 1) := by decide +kernel
theorem dX7_begins_115 : decode cX7_begins 115 = .ok (.invokestatic 53, 3) := by decide +kernel
theorem dX7_begins_118 : decode cX7_begins 118 = .ok (.pop, 1) := by decide +kernel
theorem dX7_begins_119 : decode cX7_begins 119 = .ok (.aload_n 0, 1) := by decide +kernel
theorem dX7_begins_120 : decode cX7_begins 120 = .ok (.getfield 13, 3) := by decide +kernel
theorem dX7_begins_123 : decode cX7_begins 123 = .ok (.bipush 14, 2) := by decide +kernel
theorem dX7_begins_125 : decode cX7_begins 125 = .ok (.iconst 3, 1) := by decide +kernel
theorem dX7_begins_126 : decode cX7_begins 126 = .ok (.invokestatic 53, 3) := by decide +kernel
theorem dX7_begins_129 : decode cX7_begins 129 = .ok (.pop, 1) := by decide +kernel
theorem dX7_begins_130 : decode cX7_begins 130 = .ok (.aload_n 0, 1) := by decide +kernel
theorem dX7_begins_131 : decode cX7_begins 131 = .ok (.getfield 13, 3) := by decide +kernel
theorem dX7_begins_134 : decode cX7_begins 134 = .ok (.bipush 15, 2) := by decide +kernel
theorem dX7_begins_136 : decode cX7_begins 136 = .ok (.bipush 11, 2) := by decide +kernel
theorem dX7_begins_138 : decode cX7_begins 138 = .ok (.invokestatic 53, 3) := by decide +kernel
theorem dX7_begins_141 : decode cX7_begins 141 = .ok (.pop, 1) := by decide +kernel
theorem dX7_begins_142 : decode cX7_begins 142 = .ok (.return_, 1) := by decide +kernel
theorem dX7_in_0 : decode cX7_in 0 = .ok (.iload_n 0, 1) := by decide +kernel
theorem dX7_in_1 : decode cX7_in 1 = .ok (.iload_n 1, 1) := by decide +kernel
theorem dX7_in_2 : decode cX7_in 2 = .ok (.if_icmp .lt 12, 3) := by decide +kernel
theorem dX7_in_5 : decode cX7_in 5 = .ok (.iload_n 0, 1) := by decide +kernel
theorem dX7_in_6 : decode cX7_in 6 = .ok (.iload_n 2, 1) := by decide +kernel
theorem dX7_in_7 : decode cX7_in 7 = .ok (.if_icmp .gt 7, 3) := by decide +kernel
theorem dX7_in_10 : decode cX7_in 10 = .ok (.iconst 1, 1) := by decide +kernel
theorem dX7_in_11 : decode cX7_in 11 = .ok (.goto 4, 3) := by decide +kernel
theorem dX7_in_14 : decode cX7_in 14 = .ok (.iconst 0, 1) := by decide +kernel
theorem dX7_in_15 : decode cX7_in 15 = .ok (.ireturn, 1) := by decide +kernel
theorem dX7_has_0 : decode cX7_has 0 = .ok (.iload_n 0, 1) := by decide +kernel
theorem dX7_has_1 : decode cX7_has 1 = .ok (.iload_n 1, 1) := by decide +kernel
theorem dX7_has_2 : decode cX7_has 2 = .ok (.ishr, 1) := by decide +kernel
theorem dX7_has_3 : decode cX7_has 3 = .ok (.iconst 1, 1) := by decide +kernel
theorem dX7_has_4 : decode cX7_has 4 = .ok (.iand, 1) := by decide +kernel
theorem dX7_has_5 : decode cX7_has 5 = .ok (.iconst 1, 1) := by decide +kernel
theorem dX7_has_6 : decode cX7_has 6 = .ok (.if_icmp .ne 7, 3) := by decide +kernel
theorem dX7_has_9 : decode cX7_has 9 = .ok (.iconst 1, 1) := by decide +kernel
theorem dX7_has_10 : decode cX7_has 10 = .ok (.goto 4, 3) := by decide +kernel
theorem dX7_has_13 : decode cX7_has 13 = .ok (.iconst 0, 1) := by decide +kernel
theorem dX7_has_14 : decode cX7_has 14 = .ok (.ireturn, 1) := by decide +kernel
theorem dX7_bits_0 : decode cX7_bits 0 = .ok (.iconst 0, 1) := by decide +kernel
theorem dX7_bits_1 : decode cX7_bits 1 = .ok (.istore_n 1, 1) := by decide +kernel
theorem dX7_bits_2 : decode cX7_bits 2 = .ok (.iload_n 0, 1) := by decide +kernel
theorem dX7_bits_3 : decode cX7_bits 3 = .ok (.istore_n 2, 1) := by decide +kernel
theorem dX7_bits_4 : decode cX7_bits 4 = .ok (.iload_n 2, 1) := by decide +kernel
theorem dX7_bits_5 : decode cX7_bits 5 = .ok (.ifCond .eq 15, 3) := by decide +kernel
theorem dX7_bits_8 : decode cX7_bits 8 = .ok (.iinc 1 1, 3) := by decide +kernel
theorem dX7_bits_11 : decode cX7_bits 11 = .ok (.iload_n 2, 1) := by decide +kernel
theorem dX7_bits_12 : decode cX7_bits 12 = .ok (.iload_n 2, 1) := by decide +kernel
theorem dX7_bits_13 : decode cX7_bits 13 = .ok (.iconst 1, 1) := by decide +kernel
theorem dX7_bits_14 : decode cX7_bits 14 = .ok (.isub, 1) := by decide +kernel
theorem dX7_bits_15 : decode cX7_bits 15 = .ok (.iand, 1) := by decide +kernel
theorem dX7_bits_16 : decode cX7_bits 16 = .ok (.istore_n 2, 1) := by decide +kernel
theorem dX7_bits_17 : decode cX7_bits 17 = .ok (.goto (-13), 3) := by decide +kernel
theorem dX7_bits_20 : decode cX7_bits 20 = .ok (.iload_n 1, 1) := by decide +kernel
theorem dX7_bits_21 : decode cX7_bits 21 = .ok (.ireturn, 1) := by decide +kernel
theorem dX7_copies_0 : decode cX7_copies 0 = .ok (.iconst 0, 1) := by decide +kernel
theorem dX7_copies_1 : decode cX7_copies 1 = .ok (.istore 4, 2) := by decide +kernel
theorem dX7_copies_3 : decode cX7_copies 3 = .ok (.iload 4, 2) := by decide +kernel
theorem dX7_copies_5 : decode cX7_copies 5 = .ok (.bipush 30, 2) := by decide +kernel
theorem dX7_copies_7 : decode cX7_copies 7 = .ok (.if_icmp .ge 21, 3) := by decide +kernel
theorem dX7_copies_10 : decode cX7_copies 10 = .ok (.aload_n 2, 1) := by decide +kernel
theorem dX7_copies_11 : decode cX7_copies 11 = .ok (.iload_n 3, 1) := by decide +kernel
theorem dX7_copies_12 : decode cX7_copies 12 = .ok (.iload 4, 2) := by decide +kernel
theorem dX7_copies_14 : decode cX7_copies 14 = .ok (.iadd, 1) := by decide +kernel
theorem dX7_copies_15 : decode cX7_copies 15 = .ok (.aload_n 0, 1) := by decide +kernel
theorem dX7_copies_16 : decode cX7_copies 16 = .ok (.iload_n 1, 1) := by decide +kernel
theorem dX7_copies_17 : decode cX7_copies 17 = .ok (.iload 4, 2) := by decide +kernel
theorem dX7_copies_19 : decode cX7_copies 19 = .ok (.iadd, 1) := by decide +kernel
theorem dX7_copies_20 : decode cX7_copies 20 = .ok (.iaload, 1) := by decide +kernel
theorem dX7_copies_21 : decode cX7_copies 21 = .ok (.iastore, 1) := by decide +kernel
theorem dX7_copies_22 : decode cX7_copies 22 = .ok (.iinc 4 1, 3) := by decide +kernel
theorem dX7_copies_25 : decode cX7_copies 25 = .ok (.goto (-22), 3) := by decide +kernel
theorem dX7_copies_28 : decode cX7_copies 28 = .ok (.return_, 1) := by decide +kernel
theorem dX7_numberOf_0 : decode cX7_numberOf 0 = .ok (.iconst 0, 1) := by decide +kernel
theorem dX7_numberOf_1 : decode cX7_numberOf 1 = .ok (.istore_n 3, 1) := by decide +kernel
theorem dX7_numberOf_2 : decode cX7_numberOf 2 = .ok (.iload_n 3, 1) := by decide +kernel
theorem dX7_numberOf_3 : decode cX7_numberOf 3 = .ok (.aload_n 0, 1) := by decide +kernel
theorem dX7_numberOf_4 : decode cX7_numberOf 4 = .ok (.iconst 0, 1) := by decide +kernel
theorem dX7_numberOf_5 : decode cX7_numberOf 5 = .ok (.iaload, 1) := by decide +kernel
theorem dX7_numberOf_6 : decode cX7_numberOf 6 = .ok (.if_icmp .ge 30, 3) := by decide +kernel
theorem dX7_numberOf_9 : decode cX7_numberOf 9 = .ok (.aload_n 0, 1) := by decide +kernel
theorem dX7_numberOf_10 : decode cX7_numberOf 10 = .ok (.iconst 2, 1) := by decide +kernel
theorem dX7_numberOf_11 : decode cX7_numberOf 11 = .ok (.iload_n 3, 1) := by decide +kernel
theorem dX7_numberOf_12 : decode cX7_numberOf 12 = .ok (.iadd, 1) := by decide +kernel
theorem dX7_numberOf_13 : decode cX7_numberOf 13 = .ok (.iaload, 1) := by decide +kernel
theorem dX7_numberOf_14 : decode cX7_numberOf 14 = .ok (.iload_n 1, 1) := by decide +kernel
theorem dX7_numberOf_15 : decode cX7_numberOf 15 = .ok (.if_icmp .ne 15, 3) := by decide +kernel
theorem dX7_numberOf_18 : decode cX7_numberOf 18 = .ok (.aload_n 0, 1) := by decide +kernel
theorem dX7_numberOf_19 : decode cX7_numberOf 19 = .ok (.bipush 16, 2) := by decide +kernel
theorem dX7_numberOf_21 : decode cX7_numberOf 21 = .ok (.iload_n 3, 1) := by decide +kernel
theorem dX7_numberOf_22 : decode cX7_numberOf 22 = .ok (.iadd, 1) := by decide +kernel
theorem dX7_numberOf_23 : decode cX7_numberOf 23 = .ok (.iaload, 1) := by decide +kernel
theorem dX7_numberOf_24 : decode cX7_numberOf 24 = .ok (.iload_n 2, 1) := by decide +kernel
theorem dX7_numberOf_25 : decode cX7_numberOf 25 = .ok (.if_icmp .ne 5, 3) := by decide +kernel
theorem dX7_numberOf_28 : decode cX7_numberOf 28 = .ok (.iload_n 3, 1) := by decide +kernel
theorem dX7_numberOf_29 : decode cX7_numberOf 29 = .ok (.ireturn, 1) := by decide +kernel
theorem dX7_numberOf_30 : decode cX7_numberOf 30 = .ok (.iinc 3 1, 3) := by decide +kernel
theorem dX7_numberOf_33 : decode cX7_numberOf 33 = .ok (.goto (-31), 3) := by decide +kernel
theorem dX7_numberOf_36 : decode cX7_numberOf 36 = .ok (.bipush (-4), 2) := by decide +kernel
theorem dX7_numberOf_38 : decode cX7_numberOf 38 = .ok (.ireturn, 1) := by decide +kernel
theorem dX7_puts_0 : decode cX7_puts 0 = .ok (.aload_n 0, 1) := by decide +kernel
theorem dX7_puts_1 : decode cX7_puts 1 = .ok (.iconst 0, 1) := by decide +kernel
theorem dX7_puts_2 : decode cX7_puts 2 = .ok (.iaload, 1) := by decide +kernel
theorem dX7_puts_3 : decode cX7_puts 3 = .ok (.istore_n 3, 1) := by decide +kernel
theorem dX7_puts_4 : decode cX7_puts 4 = .ok (.iload_n 3, 1) := by decide +kernel
theorem dX7_puts_5 : decode cX7_puts 5 = .ok (.ifCond .le 69, 3) := by decide +kernel
theorem dX7_puts_8 : decode cX7_puts 8 = .ok (.aload_n 0, 1) := by decide +kernel
theorem dX7_puts_9 : decode cX7_puts 9 = .ok (.iconst 2, 1) := by decide +kernel
theorem dX7_puts_10 : decode cX7_puts 10 = .ok (.iload_n 3, 1) := by decide +kernel
theorem dX7_puts_11 : decode cX7_puts 11 = .ok (.iadd, 1) := by decide +kernel
theorem dX7_puts_12 : decode cX7_puts 12 = .ok (.iconst 1, 1) := by decide +kernel
theorem dX7_puts_13 : decode cX7_puts 13 = .ok (.isub, 1) := by decide +kernel
theorem dX7_puts_14 : decode cX7_puts 14 = .ok (.iaload, 1) := by decide +kernel
theorem dX7_puts_15 : decode cX7_puts 15 = .ok (.iload_n 1, 1) := by decide +kernel
theorem dX7_puts_16 : decode cX7_puts 16 = .ok (.if_icmp .gt 26, 3) := by decide +kernel
theorem dX7_puts_19 : decode cX7_puts 19 = .ok (.aload_n 0, 1) := by decide +kernel
theorem dX7_puts_20 : decode cX7_puts 20 = .ok (.iconst 2, 1) := by decide +kernel
theorem dX7_puts_21 : decode cX7_puts 21 = .ok (.iload_n 3, 1) := by decide +kernel
theorem dX7_puts_22 : decode cX7_puts 22 = .ok (.iadd, 1) := by decide +kernel
theorem dX7_puts_23 : decode cX7_puts 23 = .ok (.iconst 1, 1) := by decide +kernel
theorem dX7_puts_24 : decode cX7_puts 24 = .ok (.isub, 1) := by decide +kernel
theorem dX7_puts_25 : decode cX7_puts 25 = .ok (.iaload, 1) := by decide +kernel
theorem dX7_puts_26 : decode cX7_puts 26 = .ok (.iload_n 1, 1) := by decide +kernel
theorem dX7_puts_27 : decode cX7_puts 27 = .ok (.if_icmp .ne 47, 3) := by decide +kernel
theorem dX7_puts_30 : decode cX7_puts 30 = .ok (.aload_n 0, 1) := by decide +kernel
theorem dX7_puts_31 : decode cX7_puts 31 = .ok (.bipush 16, 2) := by decide +kernel
theorem dX7_puts_33 : decode cX7_puts 33 = .ok (.iload_n 3, 1) := by decide +kernel
theorem dX7_puts_34 : decode cX7_puts 34 = .ok (.iadd, 1) := by decide +kernel
theorem dX7_puts_35 : decode cX7_puts 35 = .ok (.iconst 1, 1) := by decide +kernel
theorem dX7_puts_36 : decode cX7_puts 36 = .ok (.isub, 1) := by decide +kernel
theorem dX7_puts_37 : decode cX7_puts 37 = .ok (.iaload, 1) := by decide +kernel
theorem dX7_puts_38 : decode cX7_puts 38 = .ok (.iload_n 2, 1) := by decide +kernel
theorem dX7_puts_39 : decode cX7_puts 39 = .ok (.if_icmp .le 35, 3) := by decide +kernel
theorem dX7_puts_42 : decode cX7_puts 42 = .ok (.aload_n 0, 1) := by decide +kernel
theorem dX7_puts_43 : decode cX7_puts 43 = .ok (.iconst 2, 1) := by decide +kernel
theorem dX7_puts_44 : decode cX7_puts 44 = .ok (.iload_n 3, 1) := by decide +kernel
theorem dX7_puts_45 : decode cX7_puts 45 = .ok (.iadd, 1) := by decide +kernel
theorem dX7_puts_46 : decode cX7_puts 46 = .ok (.aload_n 0, 1) := by decide +kernel
theorem dX7_puts_47 : decode cX7_puts 47 = .ok (.iconst 2, 1) := by decide +kernel
theorem dX7_puts_48 : decode cX7_puts 48 = .ok (.iload_n 3, 1) := by decide +kernel
theorem dX7_puts_49 : decode cX7_puts 49 = .ok (.iadd, 1) := by decide +kernel
theorem dX7_puts_50 : decode cX7_puts 50 = .ok (.iconst 1, 1) := by decide +kernel
theorem dX7_puts_51 : decode cX7_puts 51 = .ok (.isub, 1) := by decide +kernel
theorem dX7_puts_52 : decode cX7_puts 52 = .ok (.iaload, 1) := by decide +kernel
theorem dX7_puts_53 : decode cX7_puts 53 = .ok (.iastore, 1) := by decide +kernel
theorem dX7_puts_54 : decode cX7_puts 54 = .ok (.aload_n 0, 1) := by decide +kernel
theorem dX7_puts_55 : decode cX7_puts 55 = .ok (.bipush 16, 2) := by decide +kernel
theorem dX7_puts_57 : decode cX7_puts 57 = .ok (.iload_n 3, 1) := by decide +kernel
theorem dX7_puts_58 : decode cX7_puts 58 = .ok (.iadd, 1) := by decide +kernel
theorem dX7_puts_59 : decode cX7_puts 59 = .ok (.aload_n 0, 1) := by decide +kernel
theorem dX7_puts_60 : decode cX7_puts 60 = .ok (.bipush 16, 2) := by decide +kernel
theorem dX7_puts_62 : decode cX7_puts 62 = .ok (.iload_n 3, 1) := by decide +kernel
theorem dX7_puts_63 : decode cX7_puts 63 = .ok (.iadd, 1) := by decide +kernel
theorem dX7_puts_64 : decode cX7_puts 64 = .ok (.iconst 1, 1) := by decide +kernel
theorem dX7_puts_65 : decode cX7_puts 65 = .ok (.isub, 1) := by decide +kernel
theorem dX7_puts_66 : decode cX7_puts 66 = .ok (.iaload, 1) := by decide +kernel
theorem dX7_puts_67 : decode cX7_puts 67 = .ok (.iastore, 1) := by decide +kernel
theorem dX7_puts_68 : decode cX7_puts 68 = .ok (.iinc 3 (-1), 3) := by decide +kernel
theorem dX7_puts_71 : decode cX7_puts 71 = .ok (.goto (-67), 3) := by decide +kernel
theorem dX7_puts_74 : decode cX7_puts 74 = .ok (.aload_n 0, 1) := by decide +kernel
theorem dX7_puts_75 : decode cX7_puts 75 = .ok (.iconst 2, 1) := by decide +kernel
theorem dX7_puts_76 : decode cX7_puts 76 = .ok (.iload_n 3, 1) := by decide +kernel
theorem dX7_puts_77 : decode cX7_puts 77 = .ok (.iadd, 1) := by decide +kernel
theorem dX7_puts_78 : decode cX7_puts 78 = .ok (.iload_n 1, 1) := by decide +kernel
theorem dX7_puts_79 : decode cX7_puts 79 = .ok (.iastore, 1) := by decide +kernel
theorem dX7_puts_80 : decode cX7_puts 80 = .ok (.aload_n 0, 1) := by decide +kernel
theorem dX7_puts_81 : decode cX7_puts 81 = .ok (.bipush 16, 2) := by decide +kernel
theorem dX7_puts_83 : decode cX7_puts 83 = .ok (.iload_n 3, 1) := by decide +kernel
theorem dX7_puts_84 : decode cX7_puts 84 = .ok (.iadd, 1) := by decide +kernel
theorem dX7_puts_85 : decode cX7_puts 85 = .ok (.iload_n 2, 1) := by decide +kernel
theorem dX7_puts_86 : decode cX7_puts 86 = .ok (.iastore, 1) := by decide +kernel
theorem dX7_puts_87 : decode cX7_puts 87 = .ok (.aload_n 0, 1) := by decide +kernel
theorem dX7_puts_88 : decode cX7_puts 88 = .ok (.iconst 0, 1) := by decide +kernel
theorem dX7_puts_89 : decode cX7_puts 89 = .ok (.dup2, 1) := by decide +kernel
theorem dX7_puts_90 : decode cX7_puts 90 = .ok (.iaload, 1) := by decide +kernel
theorem dX7_puts_91 : decode cX7_puts 91 = .ok (.iconst 1, 1) := by decide +kernel
theorem dX7_puts_92 : decode cX7_puts 92 = .ok (.iadd, 1) := by decide +kernel
theorem dX7_puts_93 : decode cX7_puts 93 = .ok (.iastore, 1) := by decide +kernel
theorem dX7_puts_94 : decode cX7_puts 94 = .ok (.iload_n 3, 1) := by decide +kernel
theorem dX7_puts_95 : decode cX7_puts 95 = .ok (.ireturn, 1) := by decide +kernel
theorem dX7_leaves_0 : decode cX7_leaves 0 = .ok (.iload_n 1, 1) := by decide +kernel
theorem dX7_leaves_1 : decode cX7_leaves 1 = .ok (.istore_n 2, 1) := by decide +kernel
theorem dX7_leaves_2 : decode cX7_leaves 2 = .ok (.iload_n 2, 1) := by decide +kernel
theorem dX7_leaves_3 : decode cX7_leaves 3 = .ok (.iconst 1, 1) := by decide +kernel
theorem dX7_leaves_4 : decode cX7_leaves 4 = .ok (.iadd, 1) := by decide +kernel
theorem dX7_leaves_5 : decode cX7_leaves 5 = .ok (.aload_n 0, 1) := by decide +kernel
theorem dX7_leaves_6 : decode cX7_leaves 6 = .ok (.iconst 0, 1) := by decide +kernel
theorem dX7_leaves_7 : decode cX7_leaves 7 = .ok (.iaload, 1) := by decide +kernel
theorem dX7_leaves_8 : decode cX7_leaves 8 = .ok (.if_icmp .ge 35, 3) := by decide +kernel
theorem dX7_leaves_11 : decode cX7_leaves 11 = .ok (.aload_n 0, 1) := by decide +kernel
theorem dX7_leaves_12 : decode cX7_leaves 12 = .ok (.iconst 2, 1) := by decide +kernel
theorem dX7_leaves_13 : decode cX7_leaves 13 = .ok (.iload_n 2, 1) := by decide +kernel
theorem dX7_leaves_14 : decode cX7_leaves 14 = .ok (.iadd, 1) := by decide +kernel
theorem dX7_leaves_15 : decode cX7_leaves 15 = .ok (.aload_n 0, 1) := by decide +kernel
theorem dX7_leaves_16 : decode cX7_leaves 16 = .ok (.iconst 2, 1) := by decide +kernel
theorem dX7_leaves_17 : decode cX7_leaves 17 = .ok (.iload_n 2, 1) := by decide +kernel
theorem dX7_leaves_18 : decode cX7_leaves 18 = .ok (.iadd, 1) := by decide +kernel
theorem dX7_leaves_19 : decode cX7_leaves 19 = .ok (.iconst 1, 1) := by decide +kernel
theorem dX7_leaves_20 : decode cX7_leaves 20 = .ok (.iadd, 1) := by decide +kernel
theorem dX7_leaves_21 : decode cX7_leaves 21 = .ok (.iaload, 1) := by decide +kernel
theorem dX7_leaves_22 : decode cX7_leaves 22 = .ok (.iastore, 1) := by decide +kernel
theorem dX7_leaves_23 : decode cX7_leaves 23 = .ok (.aload_n 0, 1) := by decide +kernel
theorem dX7_leaves_24 : decode cX7_leaves 24 = .ok (.bipush 16, 2) := by decide +kernel
theorem dX7_leaves_26 : decode cX7_leaves 26 = .ok (.iload_n 2, 1) := by decide +kernel
theorem dX7_leaves_27 : decode cX7_leaves 27 = .ok (.iadd, 1) := by decide +kernel
theorem dX7_leaves_28 : decode cX7_leaves 28 = .ok (.aload_n 0, 1) := by decide +kernel
theorem dX7_leaves_29 : decode cX7_leaves 29 = .ok (.bipush 16, 2) := by decide +kernel
theorem dX7_leaves_31 : decode cX7_leaves 31 = .ok (.iload_n 2, 1) := by decide +kernel
theorem dX7_leaves_32 : decode cX7_leaves 32 = .ok (.iadd, 1) := by decide +kernel
theorem dX7_leaves_33 : decode cX7_leaves 33 = .ok (.iconst 1, 1) := by decide +kernel
theorem dX7_leaves_34 : decode cX7_leaves 34 = .ok (.iadd, 1) := by decide +kernel
theorem dX7_leaves_35 : decode cX7_leaves 35 = .ok (.iaload, 1) := by decide +kernel
theorem dX7_leaves_36 : decode cX7_leaves 36 = .ok (.iastore, 1) := by decide +kernel
theorem dX7_leaves_37 : decode cX7_leaves 37 = .ok (.iinc 2 1, 3) := by decide +kernel
theorem dX7_leaves_40 : decode cX7_leaves 40 = .ok (.goto (-38), 3) := by decide +kernel
theorem dX7_leaves_43 : decode cX7_leaves 43 = .ok (.aload_n 0, 1) := by decide +kernel
theorem dX7_leaves_44 : decode cX7_leaves 44 = .ok (.iconst 0, 1) := by decide +kernel
theorem dX7_leaves_45 : decode cX7_leaves 45 = .ok (.dup2, 1) := by decide +kernel
theorem dX7_leaves_46 : decode cX7_leaves 46 = .ok (.iaload, 1) := by decide +kernel
theorem dX7_leaves_47 : decode cX7_leaves 47 = .ok (.iconst 1, 1) := by decide +kernel
theorem dX7_leaves_48 : decode cX7_leaves 48 = .ok (.isub, 1) := by decide +kernel
theorem dX7_leaves_49 : decode cX7_leaves 49 = .ok (.iastore, 1) := by decide +kernel
theorem dX7_leaves_50 : decode cX7_leaves 50 = .ok (.return_, 1) := by decide +kernel
theorem dX7_here_0 : decode cX7_here 0 = .ok (.aload_n 0, 1) := by decide +kernel
theorem dX7_here_1 : decode cX7_here 1 = .ok (.getfield 57, 3) := by decide +kernel
theorem dX7_here_4 : decode cX7_here 4 = .ok (.aload_n 0, 1) := by decide +kernel
theorem dX7_here_5 : decode cX7_here 5 = .ok (.getfield 61, 3) := by decide +kernel
theorem dX7_here_8 : decode cX7_here 8 = .ok (.if_icmp .ge 15, 3) := by decide +kernel
theorem dX7_here_11 : decode cX7_here 11 = .ok (.aload_n 0, 1) := by decide +kernel
theorem dX7_here_12 : decode cX7_here 12 = .ok (.getfield 25, 3) := by decide +kernel
theorem dX7_here_15 : decode cX7_here 15 = .ok (.aload_n 0, 1) := by decide +kernel
theorem dX7_here_16 : decode cX7_here 16 = .ok (.getfield 57, 3) := by decide +kernel
theorem dX7_here_19 : decode cX7_here 19 = .ok (.iaload, 1) := by decide +kernel
theorem dX7_here_20 : decode cX7_here 20 = .ok (.goto 4, 3) := by decide +kernel
theorem dX7_here_23 : decode cX7_here 23 = .ok (.iconst (-1), 1) := by decide +kernel
theorem dX7_here_24 : decode cX7_here 24 = .ok (.ireturn, 1) := by decide +kernel
theorem dX7_number_0 : decode cX7_number 0 = .ok (.iconst 0, 1) := by decide +kernel
theorem dX7_number_1 : decode cX7_number 1 = .ok (.istore_n 3, 1) := by decide +kernel
theorem dX7_number_2 : decode cX7_number 2 = .ok (.iconst 0, 1) := by decide +kernel
theorem dX7_number_3 : decode cX7_number 3 = .ok (.istore 4, 2) := by decide +kernel
theorem dX7_number_5 : decode cX7_number 5 = .ok (.aload_n 0, 1) := by decide +kernel
theorem dX7_number_6 : decode cX7_number 6 = .ok (.invokevirtual 64, 3) := by decide +kernel
theorem dX7_number_9 : decode cX7_number 9 = .ok (.bipush 48, 2) := by decide +kernel
theorem dX7_number_11 : decode cX7_number 11 = .ok (.bipush 57, 2) := by decide +kernel
theorem dX7_number_13 : decode cX7_number 13 = .ok (.invokestatic 68, 3) := by decide +kernel
theorem dX7_number_16 : decode cX7_number 16 = .ok (.ifCond .eq 38, 3) := by decide +kernel
theorem dX7_number_19 : decode cX7_number 19 = .ok (.iload 4, 2) := by decide +kernel
theorem dX7_number_21 : decode cX7_number 21 = .ok (.iconst 3, 1) := by decide +kernel
theorem dX7_number_22 : decode cX7_number 22 = .ok (.if_icmp .ge 32, 3) := by decide +kernel
theorem dX7_number_25 : decode cX7_number 25 = .ok (.bipush 10, 2) := by decide +kernel
theorem dX7_number_27 : decode cX7_number 27 = .ok (.iload_n 3, 1) := by decide +kernel
theorem dX7_number_28 : decode cX7_number 28 = .ok (.imul, 1) := by decide +kernel
theorem dX7_number_29 : decode cX7_number 29 = .ok (.aload_n 0, 1) := by decide +kernel
theorem dX7_number_30 : decode cX7_number 30 = .ok (.invokevirtual 64, 3) := by decide +kernel
theorem dX7_number_33 : decode cX7_number 33 = .ok (.iadd, 1) := by decide +kernel
theorem dX7_number_34 : decode cX7_number 34 = .ok (.bipush 48, 2) := by decide +kernel
theorem dX7_number_36 : decode cX7_number 36 = .ok (.isub, 1) := by decide +kernel
theorem dX7_number_37 : decode cX7_number 37 = .ok (.istore_n 3, 1) := by decide +kernel
theorem dX7_number_38 : decode cX7_number 38 = .ok (.iinc 4 1, 3) := by decide +kernel
theorem dX7_number_41 : decode cX7_number 41 = .ok (.aload_n 0, 1) := by decide +kernel
theorem dX7_number_42 : decode cX7_number 42 = .ok (.dup, 1) := by decide +kernel
theorem dX7_number_43 : decode cX7_number 43 = .ok (.getfield 57, 3) := by decide +kernel
theorem dX7_number_46 : decode cX7_number 46 = .ok (.iconst 1, 1) := by decide +kernel
theorem dX7_number_47 : decode cX7_number 47 = .ok (.iadd, 1) := by decide +kernel
theorem dX7_number_48 : decode cX7_number 48 = .ok (.putfield 57, 3) := by decide +kernel
theorem dX7_number_51 : decode cX7_number 51 = .ok (.goto (-46), 3) := by decide +kernel
theorem dX7_number_54 : decode cX7_number 54 = .ok (.iload 4, 2) := by decide +kernel
theorem dX7_number_56 : decode cX7_number 56 = .ok (.iconst 1, 1) := by decide +kernel
theorem dX7_number_57 : decode cX7_number 57 = .ok (.iconst 2, 1) := by decide +kernel
theorem dX7_number_58 : decode cX7_number 58 = .ok (.invokestatic 68, 3) := by decide +kernel
theorem dX7_number_61 : decode cX7_number 61 = .ok (.ifCond .eq 16, 3) := by decide +kernel
theorem dX7_number_64 : decode cX7_number 64 = .ok (.iload_n 3, 1) := by decide +kernel
theorem dX7_number_65 : decode cX7_number 65 = .ok (.iload_n 1, 1) := by decide +kernel
theorem dX7_number_66 : decode cX7_number 66 = .ok (.if_icmp .gt 11, 3) := by decide +kernel
theorem dX7_number_69 : decode cX7_number 69 = .ok (.aload_n 0, 1) := by decide +kernel
theorem dX7_number_70 : decode cX7_number 70 = .ok (.invokevirtual 64, 3) := by decide +kernel
theorem dX7_number_73 : decode cX7_number 73 = .ok (.iload_n 2, 1) := by decide +kernel
theorem dX7_number_74 : decode cX7_number 74 = .ok (.if_icmp .eq 5, 3) := by decide +kernel
theorem dX7_number_77 : decode cX7_number 77 = .ok (.iconst (-1), 1) := by decide +kernel
theorem dX7_number_78 : decode cX7_number 78 = .ok (.ireturn, 1) := by decide +kernel
theorem dX7_number_79 : decode cX7_number 79 = .ok (.aload_n 0, 1) := by decide +kernel
theorem dX7_number_80 : decode cX7_number 80 = .ok (.dup, 1) := by decide +kernel
theorem dX7_number_81 : decode cX7_number 81 = .ok (.getfield 57, 3) := by decide +kernel
theorem dX7_number_84 : decode cX7_number 84 = .ok (.iconst 1, 1) := by decide +kernel
theorem dX7_number_85 : decode cX7_number 85 = .ok (.iadd, 1) := by decide +kernel
theorem dX7_number_86 : decode cX7_number 86 = .ok (.putfield 57, 3) := by decide +kernel
theorem dX7_number_89 : decode cX7_number 89 = .ok (.iload_n 3, 1) := by decide +kernel
theorem dX7_number_90 : decode cX7_number 90 = .ok (.ireturn, 1) := by decide +kernel
theorem dX7_readsItem_0 : decode cX7_readsItem 0 = .ok (.aload_n 0, 1) := by decide +kernel
theorem dX7_readsItem_1 : decode cX7_readsItem 1 = .ok (.invokevirtual 64, 3) := by decide +kernel
theorem dX7_readsItem_4 : decode cX7_readsItem 4 = .ok (.istore_n 1, 1) := by decide +kernel
theorem dX7_readsItem_5 : decode cX7_readsItem 5 = .ok (.aload_n 0, 1) := by decide +kernel
theorem dX7_readsItem_6 : decode cX7_readsItem 6 = .ok (.dup, 1) := by decide +kernel
theorem dX7_readsItem_7 : decode cX7_readsItem 7 = .ok (.getfield 57, 3) := by decide +kernel
theorem dX7_readsItem_10 : decode cX7_readsItem 10 = .ok (.iconst 1, 1) := by decide +kernel
theorem dX7_readsItem_11 : decode cX7_readsItem 11 = .ok (.iadd, 1) := by decide +kernel
theorem dX7_readsItem_12 : decode cX7_readsItem 12 = .ok (.putfield 57, 3) := by decide +kernel
theorem dX7_readsItem_15 : decode cX7_readsItem 15 = .ok (.iload_n 1, 1) := by decide +kernel
theorem dX7_readsItem_16 : decode cX7_readsItem 16 = .ok (.bipush 110, 2) := by decide +kernel
theorem dX7_readsItem_18 : decode cX7_readsItem 18 = .ok (.if_icmp .ne 78, 3) := by decide +kernel
theorem dX7_readsItem_21 : decode cX7_readsItem 21 = .ok (.aload_n 0, 1) := by decide +kernel
theorem dX7_readsItem_22 : decode cX7_readsItem 22 = .ok (.bipush 19, 2) := by decide +kernel
theorem dX7_readsItem_24 : decode cX7_readsItem 24 = .ok (.bipush 44, 2) := by decide +kernel
theorem dX7_readsItem_26 : decode cX7_readsItem 26 = .ok (.invokevirtual 72, 3) := by decide +kernel
theorem dX7_readsItem_29 : decode cX7_readsItem 29 = .ok (.istore_n 2, 1) := by decide +kernel
theorem dX7_readsItem_30 : decode cX7_readsItem 30 = .ok (.iload_n 2, 1) := by decide +kernel
theorem dX7_readsItem_31 : decode cX7_readsItem 31 = .ok (.ifCond .ge 7, 3) := by decide +kernel
theorem dX7_readsItem_34 : decode cX7_readsItem 34 = .ok (.iconst (-1), 1) := by decide +kernel
theorem dX7_readsItem_35 : decode cX7_readsItem 35 = .ok (.goto 11, 3) := by decide +kernel
theorem dX7_readsItem_38 : decode cX7_readsItem 38 = .ok (.aload_n 0, 1) := by decide +kernel
theorem dX7_readsItem_39 : decode cX7_readsItem 39 = .ok (.bipush 11, 2) := by decide +kernel
theorem dX7_readsItem_41 : decode cX7_readsItem 41 = .ok (.bipush 59, 2) := by decide +kernel
theorem dX7_readsItem_43 : decode cX7_readsItem 43 = .ok (.invokevirtual 72, 3) := by decide +kernel
theorem dX7_readsItem_46 : decode cX7_readsItem 46 = .ok (.istore_n 3, 1) := by decide +kernel
theorem dX7_readsItem_47 : decode cX7_readsItem 47 = .ok (.iload_n 3, 1) := by decide +kernel
theorem dX7_readsItem_48 : decode cX7_readsItem 48 = .ok (.ifCond .lt 28, 3) := by decide +kernel
theorem dX7_readsItem_51 : decode cX7_readsItem 51 = .ok (.aload_n 0, 1) := by decide +kernel
theorem dX7_readsItem_52 : decode cX7_readsItem 52 = .ok (.getfield 13, 3) := by decide +kernel
theorem dX7_readsItem_55 : decode cX7_readsItem 55 = .ok (.iconst 0, 1) := by decide +kernel
theorem dX7_readsItem_56 : decode cX7_readsItem 56 = .ok (.iaload, 1) := by decide +kernel
theorem dX7_readsItem_57 : decode cX7_readsItem 57 = .ok (.bipush 14, 2) := by decide +kernel
theorem dX7_readsItem_59 : decode cX7_readsItem 59 = .ok (.if_icmp .eq 17, 3) := by decide +kernel
theorem dX7_readsItem_62 : decode cX7_readsItem 62 = .ok (.aload_n 0, 1) := by decide +kernel
theorem dX7_readsItem_63 : decode cX7_readsItem 63 = .ok (.getfield 13, 3) := by decide +kernel
theorem dX7_readsItem_66 : decode cX7_readsItem 66 = .ok (.iload_n 2, 1) := by decide +kernel
theorem dX7_readsItem_67 : decode cX7_readsItem 67 = .ok (.iload_n 3, 1) := by decide +kernel
theorem dX7_readsItem_68 : decode cX7_readsItem 68 = .ok (.invokestatic 76, 3) := by decide +kernel
theorem dX7_readsItem_71 : decode cX7_readsItem 71 = .ok (.bipush (-4), 2) := by decide +kernel
theorem dX7_readsItem_73 : decode cX7_readsItem 73 = .ok (.if_icmp .eq 5, 3) := by decide +kernel
theorem dX7_readsItem_76 : decode cX7_readsItem 76 = .ok (.iconst 0, 1) := by decide +kernel
theorem dX7_readsItem_77 : decode cX7_readsItem 77 = .ok (.ireturn, 1) := by decide +kernel
theorem dX7_readsItem_78 : decode cX7_readsItem 78 = .ok (.aload_n 0, 1) := by decide +kernel
theorem dX7_readsItem_79 : decode cX7_readsItem 79 = .ok (.getfield 13, 3) := by decide +kernel
theorem dX7_readsItem_82 : decode cX7_readsItem 82 = .ok (.iload_n 2, 1) := by decide +kernel
theorem dX7_readsItem_83 : decode cX7_readsItem 83 = .ok (.iload_n 3, 1) := by decide +kernel
theorem dX7_readsItem_84 : decode cX7_readsItem 84 = .ok (.invokestatic 53, 3) := by decide +kernel
theorem dX7_readsItem_87 : decode cX7_readsItem 87 = .ok (.ifCond .lt 7, 3) := by decide +kernel
theorem dX7_readsItem_90 : decode cX7_readsItem 90 = .ok (.iconst 1, 1) := by decide +kernel
theorem dX7_readsItem_91 : decode cX7_readsItem 91 = .ok (.goto 4, 3) := by decide +kernel
theorem dX7_readsItem_94 : decode cX7_readsItem 94 = .ok (.iconst 0, 1) := by decide +kernel
theorem dX7_readsItem_95 : decode cX7_readsItem 95 = .ok (.ireturn, 1) := by decide +kernel
theorem dX7_readsItem_96 : decode cX7_readsItem 96 = .ok (.iload_n 1, 1) := by decide +kernel
theorem dX7_readsItem_97 : decode cX7_readsItem 97 = .ok (.bipush 109, 2) := by decide +kernel
theorem dX7_readsItem_99 : decode cX7_readsItem 99 = .ok (.if_icmp .ne 13, 3) := by decide +kernel
theorem dX7_readsItem_102 : decode cX7_readsItem 102 = .ok (.aload_n 0, 1) := by decide +kernel
theorem dX7_readsItem_103 : decode cX7_readsItem 103 = .ok (.iconst 2, 1) := by decide +kernel
theorem dX7_readsItem_104 : decode cX7_readsItem 104 = .ok (.bipush 59, 2) := by decide +kernel
theorem dX7_readsItem_106 : decode cX7_readsItem 106 = .ok (.invokevirtual 72, 3) := by decide +kernel
theorem dX7_readsItem_109 : decode cX7_readsItem 109 = .ok (.goto 4, 3) := by decide +kernel
theorem dX7_readsItem_112 : decode cX7_readsItem 112 = .ok (.iconst (-1), 1) := by decide +kernel
theorem dX7_readsItem_113 : decode cX7_readsItem 113 = .ok (.istore_n 2, 1) := by decide +kernel
theorem dX7_readsItem_114 : decode cX7_readsItem 114 = .ok (.iload_n 2, 1) := by decide +kernel
theorem dX7_readsItem_115 : decode cX7_readsItem 115 = .ok (.ifCond .lt 10, 3) := by decide +kernel
theorem dX7_readsItem_118 : decode cX7_readsItem 118 = .ok (.aload_n 0, 1) := by decide +kernel
theorem dX7_readsItem_119 : decode cX7_readsItem 119 = .ok (.getfield 13, 3) := by decide +kernel
theorem dX7_readsItem_122 : decode cX7_readsItem 122 = .ok (.iconst 1, 1) := by decide +kernel
theorem dX7_readsItem_123 : decode cX7_readsItem 123 = .ok (.iload_n 2, 1) := by decide +kernel
theorem dX7_readsItem_124 : decode cX7_readsItem 124 = .ok (.iastore, 1) := by decide +kernel
theorem dX7_readsItem_125 : decode cX7_readsItem 125 = .ok (.iload_n 2, 1) := by decide +kernel
theorem dX7_readsItem_126 : decode cX7_readsItem 126 = .ok (.ifCond .lt 7, 3) := by decide +kernel
theorem dX7_readsItem_129 : decode cX7_readsItem 129 = .ok (.iconst 1, 1) := by decide +kernel
theorem dX7_readsItem_130 : decode cX7_readsItem 130 = .ok (.goto 4, 3) := by decide +kernel
theorem dX7_readsItem_133 : decode cX7_readsItem 133 = .ok (.iconst 0, 1) := by decide +kernel
theorem dX7_readsItem_134 : decode cX7_readsItem 134 = .ok (.ireturn, 1) := by decide +kernel
theorem dX7_reading_0 : decode cX7_reading 0 = .ok (.aload_n 0, 1) := by decide +kernel
theorem dX7_reading_1 : decode cX7_reading 1 = .ok (.getfield 13, 3) := by decide +kernel
theorem dX7_reading_4 : decode cX7_reading 4 = .ok (.iconst 0, 1) := by decide +kernel
theorem dX7_reading_5 : decode cX7_reading 5 = .ok (.iconst 0, 1) := by decide +kernel
theorem dX7_reading_6 : decode cX7_reading 6 = .ok (.iastore, 1) := by decide +kernel
theorem dX7_reading_7 : decode cX7_reading 7 = .ok (.aload_n 0, 1) := by decide +kernel
theorem dX7_reading_8 : decode cX7_reading 8 = .ok (.getfield 13, 3) := by decide +kernel
theorem dX7_reading_11 : decode cX7_reading 11 = .ok (.iconst 1, 1) := by decide +kernel
theorem dX7_reading_12 : decode cX7_reading 12 = .ok (.iconst 0, 1) := by decide +kernel
theorem dX7_reading_13 : decode cX7_reading 13 = .ok (.iastore, 1) := by decide +kernel
theorem dX7_reading_14 : decode cX7_reading 14 = .ok (.aload_n 0, 1) := by decide +kernel
theorem dX7_reading_15 : decode cX7_reading 15 = .ok (.iconst 0, 1) := by decide +kernel
theorem dX7_reading_16 : decode cX7_reading 16 = .ok (.putfield 57, 3) := by decide +kernel
theorem dX7_reading_19 : decode cX7_reading 19 = .ok (.aload_n 0, 1) := by decide +kernel
theorem dX7_reading_20 : decode cX7_reading 20 = .ok (.getfield 57, 3) := by decide +kernel
theorem dX7_reading_23 : decode cX7_reading 23 = .ok (.aload_n 0, 1) := by decide +kernel
theorem dX7_reading_24 : decode cX7_reading 24 = .ok (.getfield 61, 3) := by decide +kernel
theorem dX7_reading_27 : decode cX7_reading 27 = .ok (.if_icmp .ge 20, 3) := by decide +kernel
theorem dX7_reading_30 : decode cX7_reading 30 = .ok (.aload_n 0, 1) := by decide +kernel
theorem dX7_reading_31 : decode cX7_reading 31 = .ok (.getfield 57, 3) := by decide +kernel
theorem dX7_reading_34 : decode cX7_reading 34 = .ok (.istore_n 1, 1) := by decide +kernel
theorem dX7_reading_35 : decode cX7_reading 35 = .ok (.aload_n 0, 1) := by decide +kernel
theorem dX7_reading_36 : decode cX7_reading 36 = .ok (.invokevirtual 79, 3) := by decide +kernel
theorem dX7_reading_39 : decode cX7_reading 39 = .ok (.ifCond .ne 5, 3) := by decide +kernel
theorem dX7_reading_42 : decode cX7_reading 42 = .ok (.iload_n 1, 1) := by decide +kernel
theorem dX7_reading_43 : decode cX7_reading 43 = .ok (.ireturn, 1) := by decide +kernel
theorem dX7_reading_44 : decode cX7_reading 44 = .ok (.goto (-25), 3) := by decide +kernel
theorem dX7_reading_47 : decode cX7_reading 47 = .ok (.bipush (-4), 2) := by decide +kernel
theorem dX7_reading_49 : decode cX7_reading 49 = .ok (.ireturn, 1) := by decide +kernel
theorem dX7_write_0 : decode cX7_write 0 = .ok (.iload_n 1, 1) := by decide +kernel
theorem dX7_write_1 : decode cX7_write 1 = .ok (.bipush 32, 2) := by decide +kernel
theorem dX7_write_3 : decode cX7_write 3 = .ok (.bipush 126, 2) := by decide +kernel
theorem dX7_write_5 : decode cX7_write 5 = .ok (.invokestatic 68, 3) := by decide +kernel
theorem dX7_write_8 : decode cX7_write 8 = .ok (.ifCond .ne 5, 3) := by decide +kernel
theorem dX7_write_11 : decode cX7_write 11 = .ok (.iconst (-1), 1) := by decide +kernel
theorem dX7_write_12 : decode cX7_write 12 = .ok (.ireturn, 1) := by decide +kernel
theorem dX7_write_13 : decode cX7_write 13 = .ok (.aload_n 0, 1) := by decide +kernel
theorem dX7_write_14 : decode cX7_write 14 = .ok (.getfield 61, 3) := by decide +kernel
theorem dX7_write_17 : decode cX7_write 17 = .ok (.sipush 200, 3) := by decide +kernel
theorem dX7_write_20 : decode cX7_write 20 = .ok (.if_icmp .ne 6, 3) := by decide +kernel
theorem dX7_write_23 : decode cX7_write 23 = .ok (.bipush (-3), 2) := by decide +kernel
theorem dX7_write_25 : decode cX7_write 25 = .ok (.ireturn, 1) := by decide +kernel
theorem dX7_write_26 : decode cX7_write 26 = .ok (.aload_n 0, 1) := by decide +kernel
theorem dX7_write_27 : decode cX7_write 27 = .ok (.getfield 25, 3) := by decide +kernel
theorem dX7_write_30 : decode cX7_write 30 = .ok (.aload_n 0, 1) := by decide +kernel
theorem dX7_write_31 : decode cX7_write 31 = .ok (.getfield 61, 3) := by decide +kernel
theorem dX7_write_34 : decode cX7_write 34 = .ok (.iload_n 1, 1) := by decide +kernel
theorem dX7_write_35 : decode cX7_write 35 = .ok (.iastore, 1) := by decide +kernel
theorem dX7_write_36 : decode cX7_write 36 = .ok (.aload_n 0, 1) := by decide +kernel
theorem dX7_write_37 : decode cX7_write 37 = .ok (.dup, 1) := by decide +kernel
theorem dX7_write_38 : decode cX7_write 38 = .ok (.getfield 61, 3) := by decide +kernel
theorem dX7_write_41 : decode cX7_write 41 = .ok (.iconst 1, 1) := by decide +kernel
theorem dX7_write_42 : decode cX7_write 42 = .ok (.iadd, 1) := by decide +kernel
theorem dX7_write_43 : decode cX7_write 43 = .ok (.putfield 61, 3) := by decide +kernel
theorem dX7_write_46 : decode cX7_write 46 = .ok (.aload_n 0, 1) := by decide +kernel
theorem dX7_write_47 : decode cX7_write 47 = .ok (.getfield 61, 3) := by decide +kernel
theorem dX7_write_50 : decode cX7_write 50 = .ok (.ireturn, 1) := by decide +kernel
theorem dX7_wipe_0 : decode cX7_wipe 0 = .ok (.aload_n 0, 1) := by decide +kernel
theorem dX7_wipe_1 : decode cX7_wipe 1 = .ok (.getfield 61, 3) := by decide +kernel
theorem dX7_wipe_4 : decode cX7_wipe 4 = .ok (.istore_n 1, 1) := by decide +kernel
theorem dX7_wipe_5 : decode cX7_wipe 5 = .ok (.aload_n 0, 1) := by decide +kernel
theorem dX7_wipe_6 : decode cX7_wipe 6 = .ok (.iconst 0, 1) := by decide +kernel
theorem dX7_wipe_7 : decode cX7_wipe 7 = .ok (.putfield 61, 3) := by decide +kernel
theorem dX7_wipe_10 : decode cX7_wipe 10 = .ok (.iload_n 1, 1) := by decide +kernel
theorem dX7_wipe_11 : decode cX7_wipe 11 = .ok (.ireturn, 1) := by decide +kernel
theorem dX7_fault_0 : decode cX7_fault 0 = .ok (.aload_n 0, 1) := by decide +kernel
theorem dX7_fault_1 : decode cX7_fault 1 = .ok (.invokevirtual 83, 3) := by decide +kernel
theorem dX7_fault_4 : decode cX7_fault 4 = .ok (.ireturn, 1) := by decide +kernel
theorem dX7_lay_0 : decode cX7_lay 0 = .ok (.aload_n 0, 1) := by decide +kernel
theorem dX7_lay_1 : decode cX7_lay 1 = .ok (.invokevirtual 83, 3) := by decide +kernel
theorem dX7_lay_4 : decode cX7_lay 4 = .ok (.bipush (-4), 2) := by decide +kernel
theorem dX7_lay_6 : decode cX7_lay 6 = .ok (.if_icmp .ne 12, 3) := by decide +kernel
theorem dX7_lay_9 : decode cX7_lay 9 = .ok (.aload_n 0, 1) := by decide +kernel
theorem dX7_lay_10 : decode cX7_lay 10 = .ok (.getfield 13, 3) := by decide +kernel
theorem dX7_lay_13 : decode cX7_lay 13 = .ok (.iconst 0, 1) := by decide +kernel
theorem dX7_lay_14 : decode cX7_lay 14 = .ok (.iaload, 1) := by decide +kernel
theorem dX7_lay_15 : decode cX7_lay 15 = .ok (.ifCond .ne 6, 3) := by decide +kernel
theorem dX7_lay_18 : decode cX7_lay 18 = .ok (.bipush (-2), 2) := by decide +kernel
theorem dX7_lay_20 : decode cX7_lay 20 = .ok (.ireturn, 1) := by decide +kernel
theorem dX7_lay_21 : decode cX7_lay 21 = .ok (.aload_n 0, 1) := by decide +kernel
theorem dX7_lay_22 : decode cX7_lay 22 = .ok (.getfield 13, 3) := by decide +kernel
theorem dX7_lay_25 : decode cX7_lay 25 = .ok (.iconst 0, 1) := by decide +kernel
theorem dX7_lay_26 : decode cX7_lay 26 = .ok (.aload_n 0, 1) := by decide +kernel
theorem dX7_lay_27 : decode cX7_lay 27 = .ok (.getfield 7, 3) := by decide +kernel
theorem dX7_lay_30 : decode cX7_lay 30 = .ok (.iconst 0, 1) := by decide +kernel
theorem dX7_lay_31 : decode cX7_lay 31 = .ok (.invokestatic 49, 3) := by decide +kernel
theorem dX7_lay_34 : decode cX7_lay 34 = .ok (.aload_n 0, 1) := by decide +kernel
theorem dX7_lay_35 : decode cX7_lay 35 = .ok (.iconst 0, 1) := by decide +kernel
theorem dX7_lay_36 : decode cX7_lay 36 = .ok (.putfield 86, 3) := by decide +kernel
theorem dX7_lay_39 : decode cX7_lay 39 = .ok (.aload_n 0, 1) := by decide +kernel
theorem dX7_lay_40 : decode cX7_lay 40 = .ok (.iconst 0, 1) := by decide +kernel
theorem dX7_lay_41 : decode cX7_lay 41 = .ok (.putfield 89, 3) := by decide +kernel
theorem dX7_lay_44 : decode cX7_lay 44 = .ok (.aload_n 0, 1) := by decide +kernel
theorem dX7_lay_45 : decode cX7_lay 45 = .ok (.getfield 7, 3) := by decide +kernel
theorem dX7_lay_48 : decode cX7_lay 48 = .ok (.iconst 0, 1) := by decide +kernel
theorem dX7_lay_49 : decode cX7_lay 49 = .ok (.iaload, 1) := by decide +kernel
theorem dX7_lay_50 : decode cX7_lay 50 = .ok (.ireturn, 1) := by decide +kernel
theorem dX7_isNote_0 : decode cX7_isNote 0 = .ok (.iload_n 1, 1) := by decide +kernel
theorem dX7_isNote_1 : decode cX7_isNote 1 = .ok (.iconst 0, 1) := by decide +kernel
theorem dX7_isNote_2 : decode cX7_isNote 2 = .ok (.aload_n 0, 1) := by decide +kernel
theorem dX7_isNote_3 : decode cX7_isNote 3 = .ok (.getfield 7, 3) := by decide +kernel
theorem dX7_isNote_6 : decode cX7_isNote 6 = .ok (.iconst 0, 1) := by decide +kernel
theorem dX7_isNote_7 : decode cX7_isNote 7 = .ok (.iaload, 1) := by decide +kernel
theorem dX7_isNote_8 : decode cX7_isNote 8 = .ok (.iconst 1, 1) := by decide +kernel
theorem dX7_isNote_9 : decode cX7_isNote 9 = .ok (.isub, 1) := by decide +kernel
theorem dX7_isNote_10 : decode cX7_isNote 10 = .ok (.invokestatic 68, 3) := by decide +kernel
theorem dX7_isNote_13 : decode cX7_isNote 13 = .ok (.ireturn, 1) := by decide +kernel
theorem dX7_note_0 : decode cX7_note 0 = .ok (.aload_n 0, 1) := by decide +kernel
theorem dX7_note_1 : decode cX7_note 1 = .ok (.iload_n 1, 1) := by decide +kernel
theorem dX7_note_2 : decode cX7_note 2 = .ok (.invokevirtual 92, 3) := by decide +kernel
theorem dX7_note_5 : decode cX7_note 5 = .ok (.ifCond .eq 32, 3) := by decide +kernel
theorem dX7_note_8 : decode cX7_note 8 = .ok (.iload_n 2, 1) := by decide +kernel
theorem dX7_note_9 : decode cX7_note 9 = .ok (.iconst 0, 1) := by decide +kernel
theorem dX7_note_10 : decode cX7_note 10 = .ok (.iconst 1, 1) := by decide +kernel
theorem dX7_note_11 : decode cX7_note 11 = .ok (.invokestatic 68, 3) := by decide +kernel
theorem dX7_note_14 : decode cX7_note 14 = .ok (.ifCond .eq 23, 3) := by decide +kernel
theorem dX7_note_17 : decode cX7_note 17 = .ok (.aload_n 0, 1) := by decide +kernel
theorem dX7_note_18 : decode cX7_note 18 = .ok (.getfield 7, 3) := by decide +kernel
theorem dX7_note_21 : decode cX7_note 21 = .ok (.iload_n 2, 1) := by decide +kernel
theorem dX7_note_22 : decode cX7_note 22 = .ok (.ifCond .ne 7, 3) := by decide +kernel
theorem dX7_note_25 : decode cX7_note 25 = .ok (.iconst 2, 1) := by decide +kernel
theorem dX7_note_26 : decode cX7_note 26 = .ok (.goto 5, 3) := by decide +kernel
theorem dX7_note_29 : decode cX7_note 29 = .ok (.bipush 16, 2) := by decide +kernel
theorem dX7_note_31 : decode cX7_note 31 = .ok (.iload_n 1, 1) := by decide +kernel
theorem dX7_note_32 : decode cX7_note 32 = .ok (.iadd, 1) := by decide +kernel
theorem dX7_note_33 : decode cX7_note 33 = .ok (.iaload, 1) := by decide +kernel
theorem dX7_note_34 : decode cX7_note 34 = .ok (.goto 4, 3) := by decide +kernel
theorem dX7_note_37 : decode cX7_note 37 = .ok (.iconst (-1), 1) := by decide +kernel
theorem dX7_note_38 : decode cX7_note 38 = .ok (.ireturn, 1) := by decide +kernel
theorem dX7_notes_0 : decode cX7_notes 0 = .ok (.aload_n 0, 1) := by decide +kernel
theorem dX7_notes_1 : decode cX7_notes 1 = .ok (.getfield 86, 3) := by decide +kernel
theorem dX7_notes_4 : decode cX7_notes 4 = .ok (.bipush 8, 2) := by decide +kernel
theorem dX7_notes_6 : decode cX7_notes 6 = .ok (.if_icmp .ne 43, 3) := by decide +kernel
theorem dX7_notes_9 : decode cX7_notes 9 = .ok (.iconst 0, 1) := by decide +kernel
theorem dX7_notes_10 : decode cX7_notes 10 = .ok (.istore_n 1, 1) := by decide +kernel
theorem dX7_notes_11 : decode cX7_notes 11 = .ok (.iload_n 1, 1) := by decide +kernel
theorem dX7_notes_12 : decode cX7_notes 12 = .ok (.sipush 210, 3) := by decide +kernel
theorem dX7_notes_15 : decode cX7_notes 15 = .ok (.if_icmp .ge 24, 3) := by decide +kernel
theorem dX7_notes_18 : decode cX7_notes 18 = .ok (.aload_n 0, 1) := by decide +kernel
theorem dX7_notes_19 : decode cX7_notes 19 = .ok (.getfield 19, 3) := by decide +kernel
theorem dX7_notes_22 : decode cX7_notes 22 = .ok (.iload_n 1, 1) := by decide +kernel
theorem dX7_notes_23 : decode cX7_notes 23 = .ok (.aload_n 0, 1) := by decide +kernel
theorem dX7_notes_24 : decode cX7_notes 24 = .ok (.getfield 19, 3) := by decide +kernel
theorem dX7_notes_27 : decode cX7_notes 27 = .ok (.iload_n 1, 1) := by decide +kernel
theorem dX7_notes_28 : decode cX7_notes 28 = .ok (.bipush 30, 2) := by decide +kernel
theorem dX7_notes_30 : decode cX7_notes 30 = .ok (.iadd, 1) := by decide +kernel
theorem dX7_notes_31 : decode cX7_notes 31 = .ok (.iaload, 1) := by decide +kernel
theorem dX7_notes_32 : decode cX7_notes 32 = .ok (.iastore, 1) := by decide +kernel
theorem dX7_notes_33 : decode cX7_notes 33 = .ok (.iinc 1 1, 3) := by decide +kernel
theorem dX7_notes_36 : decode cX7_notes 36 = .ok (.goto (-25), 3) := by decide +kernel
theorem dX7_notes_39 : decode cX7_notes 39 = .ok (.aload_n 0, 1) := by decide +kernel
theorem dX7_notes_40 : decode cX7_notes 40 = .ok (.dup, 1) := by decide +kernel
theorem dX7_notes_41 : decode cX7_notes 41 = .ok (.getfield 86, 3) := by decide +kernel
theorem dX7_notes_44 : decode cX7_notes 44 = .ok (.iconst 1, 1) := by decide +kernel
theorem dX7_notes_45 : decode cX7_notes 45 = .ok (.isub, 1) := by decide +kernel
theorem dX7_notes_46 : decode cX7_notes 46 = .ok (.putfield 86, 3) := by decide +kernel
theorem dX7_notes_49 : decode cX7_notes 49 = .ok (.aload_n 0, 1) := by decide +kernel
theorem dX7_notes_50 : decode cX7_notes 50 = .ok (.getfield 7, 3) := by decide +kernel
theorem dX7_notes_53 : decode cX7_notes 53 = .ok (.iconst 0, 1) := by decide +kernel
theorem dX7_notes_54 : decode cX7_notes 54 = .ok (.aload_n 0, 1) := by decide +kernel
theorem dX7_notes_55 : decode cX7_notes 55 = .ok (.getfield 19, 3) := by decide +kernel
theorem dX7_notes_58 : decode cX7_notes 58 = .ok (.bipush 30, 2) := by decide +kernel
theorem dX7_notes_60 : decode cX7_notes 60 = .ok (.aload_n 0, 1) := by decide +kernel
theorem dX7_notes_61 : decode cX7_notes 61 = .ok (.getfield 86, 3) := by decide +kernel
theorem dX7_notes_64 : decode cX7_notes 64 = .ok (.imul, 1) := by decide +kernel
theorem dX7_notes_65 : decode cX7_notes 65 = .ok (.invokestatic 49, 3) := by decide +kernel
theorem dX7_notes_68 : decode cX7_notes 68 = .ok (.aload_n 0, 1) := by decide +kernel
theorem dX7_notes_69 : decode cX7_notes 69 = .ok (.dup, 1) := by decide +kernel
theorem dX7_notes_70 : decode cX7_notes 70 = .ok (.getfield 86, 3) := by decide +kernel
theorem dX7_notes_73 : decode cX7_notes 73 = .ok (.iconst 1, 1) := by decide +kernel
theorem dX7_notes_74 : decode cX7_notes 74 = .ok (.iadd, 1) := by decide +kernel
theorem dX7_notes_75 : decode cX7_notes 75 = .ok (.putfield 86, 3) := by decide +kernel
theorem dX7_notes_78 : decode cX7_notes 78 = .ok (.return_, 1) := by decide +kernel
theorem dX7_isThere_0 : decode cX7_isThere 0 = .ok (.iload_n 0, 1) := by decide +kernel
theorem dX7_isThere_1 : decode cX7_isThere 1 = .ok (.iconst 0, 1) := by decide +kernel
theorem dX7_isThere_2 : decode cX7_isThere 2 = .ok (.bipush 19, 2) := by decide +kernel
theorem dX7_isThere_4 : decode cX7_isThere 4 = .ok (.invokestatic 68, 3) := by decide +kernel
theorem dX7_isThere_7 : decode cX7_isThere 7 = .ok (.ifCond .eq 17, 3) := by decide +kernel
theorem dX7_isThere_10 : decode cX7_isThere 10 = .ok (.iload_n 1, 1) := by decide +kernel
theorem dX7_isThere_11 : decode cX7_isThere 11 = .ok (.iconst 0, 1) := by decide +kernel
theorem dX7_isThere_12 : decode cX7_isThere 12 = .ok (.bipush 11, 2) := by decide +kernel
theorem dX7_isThere_14 : decode cX7_isThere 14 = .ok (.invokestatic 68, 3) := by decide +kernel
theorem dX7_isThere_17 : decode cX7_isThere 17 = .ok (.ifCond .eq 7, 3) := by decide +kernel
theorem dX7_isThere_20 : decode cX7_isThere 20 = .ok (.iconst 1, 1) := by decide +kernel
theorem dX7_isThere_21 : decode cX7_isThere 21 = .ok (.goto 4, 3) := by decide +kernel
theorem dX7_isThere_24 : decode cX7_isThere 24 = .ok (.iconst 0, 1) := by decide +kernel
theorem dX7_isThere_25 : decode cX7_isThere 25 = .ok (.ireturn, 1) := by decide +kernel
theorem dX7_put_0 : decode cX7_put 0 = .ok (.iload_n 1, 1) := by decide +kernel
theorem dX7_put_1 : decode cX7_put 1 = .ok (.iload_n 2, 1) := by decide +kernel
theorem dX7_put_2 : decode cX7_put 2 = .ok (.invokestatic 96, 3) := by decide +kernel
theorem dX7_put_5 : decode cX7_put 5 = .ok (.ifCond .ne 5, 3) := by decide +kernel
theorem dX7_put_8 : decode cX7_put 8 = .ok (.iconst (-1), 1) := by decide +kernel
theorem dX7_put_9 : decode cX7_put 9 = .ok (.ireturn, 1) := by decide +kernel
theorem dX7_put_10 : decode cX7_put 10 = .ok (.aload_n 0, 1) := by decide +kernel
theorem dX7_put_11 : decode cX7_put 11 = .ok (.getfield 7, 3) := by decide +kernel
theorem dX7_put_14 : decode cX7_put 14 = .ok (.iload_n 1, 1) := by decide +kernel
theorem dX7_put_15 : decode cX7_put 15 = .ok (.iload_n 2, 1) := by decide +kernel
theorem dX7_put_16 : decode cX7_put 16 = .ok (.invokestatic 76, 3) := by decide +kernel
theorem dX7_put_19 : decode cX7_put 19 = .ok (.bipush (-4), 2) := by decide +kernel
theorem dX7_put_21 : decode cX7_put 21 = .ok (.if_icmp .eq 6, 3) := by decide +kernel
theorem dX7_put_24 : decode cX7_put 24 = .ok (.bipush (-2), 2) := by decide +kernel
theorem dX7_put_26 : decode cX7_put 26 = .ok (.ireturn, 1) := by decide +kernel
theorem dX7_put_27 : decode cX7_put 27 = .ok (.aload_n 0, 1) := by decide +kernel
theorem dX7_put_28 : decode cX7_put 28 = .ok (.getfield 7, 3) := by decide +kernel
theorem dX7_put_31 : decode cX7_put 31 = .ok (.iconst 0, 1) := by decide +kernel
theorem dX7_put_32 : decode cX7_put 32 = .ok (.iaload, 1) := by decide +kernel
theorem dX7_put_33 : decode cX7_put 33 = .ok (.bipush 14, 2) := by decide +kernel
theorem dX7_put_35 : decode cX7_put 35 = .ok (.if_icmp .ne 6, 3) := by decide +kernel
theorem dX7_put_38 : decode cX7_put 38 = .ok (.bipush (-3), 2) := by decide +kernel
theorem dX7_put_40 : decode cX7_put 40 = .ok (.ireturn, 1) := by decide +kernel
theorem dX7_put_41 : decode cX7_put 41 = .ok (.aload_n 0, 1) := by decide +kernel
theorem dX7_put_42 : decode cX7_put 42 = .ok (.invokevirtual 100, 3) := by decide +kernel
theorem dX7_put_45 : decode cX7_put 45 = .ok (.aload_n 0, 1) := by decide +kernel
theorem dX7_put_46 : decode cX7_put 46 = .ok (.getfield 7, 3) := by decide +kernel
theorem dX7_put_49 : decode cX7_put 49 = .ok (.iload_n 1, 1) := by decide +kernel
theorem dX7_put_50 : decode cX7_put 50 = .ok (.iload_n 2, 1) := by decide +kernel
theorem dX7_put_51 : decode cX7_put 51 = .ok (.invokestatic 53, 3) := by decide +kernel
theorem dX7_put_54 : decode cX7_put 54 = .ok (.ireturn, 1) := by decide +kernel
theorem dX7_take_0 : decode cX7_take 0 = .ok (.aload_n 0, 1) := by decide +kernel
theorem dX7_take_1 : decode cX7_take 1 = .ok (.iload_n 1, 1) := by decide +kernel
theorem dX7_take_2 : decode cX7_take 2 = .ok (.invokevirtual 92, 3) := by decide +kernel
theorem dX7_take_5 : decode cX7_take 5 = .ok (.ifCond .ne 5, 3) := by decide +kernel
theorem dX7_take_8 : decode cX7_take 8 = .ok (.iconst (-1), 1) := by decide +kernel
theorem dX7_take_9 : decode cX7_take 9 = .ok (.ireturn, 1) := by decide +kernel
theorem dX7_take_10 : decode cX7_take 10 = .ok (.aload_n 0, 1) := by decide +kernel
theorem dX7_take_11 : decode cX7_take 11 = .ok (.getfield 7, 3) := by decide +kernel
theorem dX7_take_14 : decode cX7_take 14 = .ok (.iconst 0, 1) := by decide +kernel
theorem dX7_take_15 : decode cX7_take 15 = .ok (.iaload, 1) := by decide +kernel
theorem dX7_take_16 : decode cX7_take 16 = .ok (.iconst 1, 1) := by decide +kernel
theorem dX7_take_17 : decode cX7_take 17 = .ok (.if_icmp .ne 6, 3) := by decide +kernel
theorem dX7_take_20 : decode cX7_take 20 = .ok (.bipush (-2), 2) := by decide +kernel
theorem dX7_take_22 : decode cX7_take 22 = .ok (.ireturn, 1) := by decide +kernel
theorem dX7_take_23 : decode cX7_take 23 = .ok (.aload_n 0, 1) := by decide +kernel
theorem dX7_take_24 : decode cX7_take 24 = .ok (.invokevirtual 100, 3) := by decide +kernel
theorem dX7_take_27 : decode cX7_take 27 = .ok (.aload_n 0, 1) := by decide +kernel
theorem dX7_take_28 : decode cX7_take 28 = .ok (.getfield 7, 3) := by decide +kernel
theorem dX7_take_31 : decode cX7_take 31 = .ok (.iload_n 1, 1) := by decide +kernel
theorem dX7_take_32 : decode cX7_take 32 = .ok (.invokestatic 103, 3) := by decide +kernel
theorem dX7_take_35 : decode cX7_take 35 = .ok (.aload_n 0, 1) := by decide +kernel
theorem dX7_take_36 : decode cX7_take 36 = .ok (.getfield 7, 3) := by decide +kernel
theorem dX7_take_39 : decode cX7_take 39 = .ok (.iconst 0, 1) := by decide +kernel
theorem dX7_take_40 : decode cX7_take 40 = .ok (.iaload, 1) := by decide +kernel
theorem dX7_take_41 : decode cX7_take 41 = .ok (.ireturn, 1) := by decide +kernel
theorem dX7_isShift_0 : decode cX7_isShift 0 = .ok (.iload_n 1, 1) := by decide +kernel
theorem dX7_isShift_1 : decode cX7_isShift 1 = .ok (.bipush (-19), 2) := by decide +kernel
theorem dX7_isShift_3 : decode cX7_isShift 3 = .ok (.bipush 19, 2) := by decide +kernel
theorem dX7_isShift_5 : decode cX7_isShift 5 = .ok (.invokestatic 68, 3) := by decide +kernel
theorem dX7_isShift_8 : decode cX7_isShift 8 = .ok (.ifCond .eq 32, 3) := by decide +kernel
theorem dX7_isShift_11 : decode cX7_isShift 11 = .ok (.iload_n 2, 1) := by decide +kernel
theorem dX7_isShift_12 : decode cX7_isShift 12 = .ok (.aload_n 0, 1) := by decide +kernel
theorem dX7_isShift_13 : decode cX7_isShift 13 = .ok (.getfield 7, 3) := by decide +kernel
theorem dX7_isShift_16 : decode cX7_isShift 16 = .ok (.iconst 1, 1) := by decide +kernel
theorem dX7_isShift_17 : decode cX7_isShift 17 = .ok (.iaload, 1) := by decide +kernel
theorem dX7_isShift_18 : decode cX7_isShift 18 = .ok (.iconst 1, 1) := by decide +kernel
theorem dX7_isShift_19 : decode cX7_isShift 19 = .ok (.if_icmp .ne 7, 3) := by decide +kernel
theorem dX7_isShift_22 : decode cX7_isShift 22 = .ok (.iconst 0, 1) := by decide +kernel
theorem dX7_isShift_23 : decode cX7_isShift 23 = .ok (.goto 5, 3) := by decide +kernel
theorem dX7_isShift_26 : decode cX7_isShift 26 = .ok (.bipush (-11), 2) := by decide +kernel
theorem dX7_isShift_28 : decode cX7_isShift 28 = .ok (.bipush 11, 2) := by decide +kernel
theorem dX7_isShift_30 : decode cX7_isShift 30 = .ok (.invokestatic 68, 3) := by decide +kernel
theorem dX7_isShift_33 : decode cX7_isShift 33 = .ok (.ifCond .eq 7, 3) := by decide +kernel
theorem dX7_isShift_36 : decode cX7_isShift 36 = .ok (.iconst 1, 1) := by decide +kernel
theorem dX7_isShift_37 : decode cX7_isShift 37 = .ok (.goto 4, 3) := by decide +kernel
theorem dX7_isShift_40 : decode cX7_isShift 40 = .ok (.iconst 0, 1) := by decide +kernel
theorem dX7_isShift_41 : decode cX7_isShift 41 = .ok (.ireturn, 1) := by decide +kernel
theorem dX7_shift_0 : decode cX7_shift 0 = .ok (.aload_n 0, 1) := by decide +kernel
theorem dX7_shift_1 : decode cX7_shift 1 = .ok (.iload_n 1, 1) := by decide +kernel
theorem dX7_shift_2 : decode cX7_shift 2 = .ok (.invokevirtual 92, 3) := by decide +kernel
theorem dX7_shift_5 : decode cX7_shift 5 = .ok (.ifCond .eq 20, 3) := by decide +kernel
theorem dX7_shift_8 : decode cX7_shift 8 = .ok (.aload_n 0, 1) := by decide +kernel
theorem dX7_shift_9 : decode cX7_shift 9 = .ok (.iload_n 2, 1) := by decide +kernel
theorem dX7_shift_10 : decode cX7_shift 10 = .ok (.iload_n 3, 1) := by decide +kernel
theorem dX7_shift_11 : decode cX7_shift 11 = .ok (.invokevirtual 107, 3) := by decide +kernel
theorem dX7_shift_14 : decode cX7_shift 14 = .ok (.ifCond .eq 11, 3) := by decide +kernel
theorem dX7_shift_17 : decode cX7_shift 17 = .ok (.iload_n 2, 1) := by decide +kernel
theorem dX7_shift_18 : decode cX7_shift 18 = .ok (.ifCond .ne 9, 3) := by decide +kernel
theorem dX7_shift_21 : decode cX7_shift 21 = .ok (.iload_n 3, 1) := by decide +kernel
theorem dX7_shift_22 : decode cX7_shift 22 = .ok (.ifCond .ne 5, 3) := by decide +kernel
theorem dX7_shift_25 : decode cX7_shift 25 = .ok (.iconst (-1), 1) := by decide +kernel
theorem dX7_shift_26 : decode cX7_shift 26 = .ok (.ireturn, 1) := by decide +kernel
theorem dX7_shift_27 : decode cX7_shift 27 = .ok (.aload_n 0, 1) := by decide +kernel
theorem dX7_shift_28 : decode cX7_shift 28 = .ok (.getfield 7, 3) := by decide +kernel
theorem dX7_shift_31 : decode cX7_shift 31 = .ok (.iconst 2, 1) := by decide +kernel
theorem dX7_shift_32 : decode cX7_shift 32 = .ok (.iload_n 1, 1) := by decide +kernel
theorem dX7_shift_33 : decode cX7_shift 33 = .ok (.iadd, 1) := by decide +kernel
theorem dX7_shift_34 : decode cX7_shift 34 = .ok (.iaload, 1) := by decide +kernel
theorem dX7_shift_35 : decode cX7_shift 35 = .ok (.iload_n 2, 1) := by decide +kernel
theorem dX7_shift_36 : decode cX7_shift 36 = .ok (.iadd, 1) := by decide +kernel
theorem dX7_shift_37 : decode cX7_shift 37 = .ok (.istore 4, 2) := by decide +kernel
theorem dX7_shift_39 : decode cX7_shift 39 = .ok (.aload_n 0, 1) := by decide +kernel
theorem dX7_shift_40 : decode cX7_shift 40 = .ok (.getfield 7, 3) := by decide +kernel
theorem dX7_shift_43 : decode cX7_shift 43 = .ok (.bipush 16, 2) := by decide +kernel
theorem dX7_shift_45 : decode cX7_shift 45 = .ok (.iload_n 1, 1) := by decide +kernel
theorem dX7_shift_46 : decode cX7_shift 46 = .ok (.iadd, 1) := by decide +kernel
theorem dX7_shift_47 : decode cX7_shift 47 = .ok (.iaload, 1) := by decide +kernel
theorem dX7_shift_48 : decode cX7_shift 48 = .ok (.iload_n 3, 1) := by decide +kernel
theorem dX7_shift_49 : decode cX7_shift 49 = .ok (.iadd, 1) := by decide +kernel
theorem dX7_shift_50 : decode cX7_shift 50 = .ok (.istore 5, 2) := by decide +kernel
theorem dX7_shift_52 : decode cX7_shift 52 = .ok (.iload 4, 2) := by decide +kernel
theorem dX7_shift_54 : decode cX7_shift 54 = .ok (.iload 5, 2) := by decide +kernel
theorem dX7_shift_56 : decode cX7_shift 56 = .ok (.invokestatic 96, 3) := by decide +kernel
theorem dX7_shift_59 : decode cX7_shift 59 = .ok (.ifCond .ne 5, 3) := by decide +kernel
theorem dX7_shift_62 : decode cX7_shift 62 = .ok (.iconst (-1), 1) := by decide +kernel
theorem dX7_shift_63 : decode cX7_shift 63 = .ok (.ireturn, 1) := by decide +kernel
theorem dX7_shift_64 : decode cX7_shift 64 = .ok (.aload_n 0, 1) := by decide +kernel
theorem dX7_shift_65 : decode cX7_shift 65 = .ok (.getfield 7, 3) := by decide +kernel
theorem dX7_shift_68 : decode cX7_shift 68 = .ok (.iload 4, 2) := by decide +kernel
theorem dX7_shift_70 : decode cX7_shift 70 = .ok (.iload 5, 2) := by decide +kernel
theorem dX7_shift_72 : decode cX7_shift 72 = .ok (.invokestatic 76, 3) := by decide +kernel
theorem dX7_shift_75 : decode cX7_shift 75 = .ok (.bipush (-4), 2) := by decide +kernel
theorem dX7_shift_77 : decode cX7_shift 77 = .ok (.if_icmp .eq 6, 3) := by decide +kernel
theorem dX7_shift_80 : decode cX7_shift 80 = .ok (.bipush (-2), 2) := by decide +kernel
theorem dX7_shift_82 : decode cX7_shift 82 = .ok (.ireturn, 1) := by decide +kernel
theorem dX7_shift_83 : decode cX7_shift 83 = .ok (.aload_n 0, 1) := by decide +kernel
theorem dX7_shift_84 : decode cX7_shift 84 = .ok (.invokevirtual 100, 3) := by decide +kernel
theorem dX7_shift_87 : decode cX7_shift 87 = .ok (.aload_n 0, 1) := by decide +kernel
theorem dX7_shift_88 : decode cX7_shift 88 = .ok (.getfield 7, 3) := by decide +kernel
theorem dX7_shift_91 : decode cX7_shift 91 = .ok (.iload_n 1, 1) := by decide +kernel
theorem dX7_shift_92 : decode cX7_shift 92 = .ok (.invokestatic 103, 3) := by decide +kernel
theorem dX7_shift_95 : decode cX7_shift 95 = .ok (.aload_n 0, 1) := by decide +kernel
theorem dX7_shift_96 : decode cX7_shift 96 = .ok (.getfield 7, 3) := by decide +kernel
theorem dX7_shift_99 : decode cX7_shift 99 = .ok (.iload 4, 2) := by decide +kernel
theorem dX7_shift_101 : decode cX7_shift 101 = .ok (.iload 5, 2) := by decide +kernel
theorem dX7_shift_103 : decode cX7_shift 103 = .ok (.invokestatic 53, 3) := by decide +kernel
theorem dX7_shift_106 : decode cX7_shift 106 = .ok (.ireturn, 1) := by decide +kernel
theorem dX7_shiftAll_0 : decode cX7_shiftAll 0 = .ok (.aload_n 0, 1) := by decide +kernel
theorem dX7_shiftAll_1 : decode cX7_shiftAll 1 = .ok (.iload_n 1, 1) := by decide +kernel
theorem dX7_shiftAll_2 : decode cX7_shiftAll 2 = .ok (.iload_n 2, 1) := by decide +kernel
theorem dX7_shiftAll_3 : decode cX7_shiftAll 3 = .ok (.invokevirtual 107, 3) := by decide +kernel
theorem dX7_shiftAll_6 : decode cX7_shiftAll 6 = .ok (.ifCond .eq 11, 3) := by decide +kernel
theorem dX7_shiftAll_9 : decode cX7_shiftAll 9 = .ok (.iload_n 1, 1) := by decide +kernel
theorem dX7_shiftAll_10 : decode cX7_shiftAll 10 = .ok (.ifCond .ne 9, 3) := by decide +kernel
theorem dX7_shiftAll_13 : decode cX7_shiftAll 13 = .ok (.iload_n 2, 1) := by decide +kernel
theorem dX7_shiftAll_14 : decode cX7_shiftAll 14 = .ok (.ifCond .ne 5, 3) := by decide +kernel
theorem dX7_shiftAll_17 : decode cX7_shiftAll 17 = .ok (.iconst (-1), 1) := by decide +kernel
theorem dX7_shiftAll_18 : decode cX7_shiftAll 18 = .ok (.ireturn, 1) := by decide +kernel
theorem dX7_shiftAll_19 : decode cX7_shiftAll 19 = .ok (.iconst 0, 1) := by decide +kernel
theorem dX7_shiftAll_20 : decode cX7_shiftAll 20 = .ok (.istore_n 3, 1) := by decide +kernel
theorem dX7_shiftAll_21 : decode cX7_shiftAll 21 = .ok (.iload_n 3, 1) := by decide +kernel
theorem dX7_shiftAll_22 : decode cX7_shiftAll 22 = .ok (.aload_n 0, 1) := by decide +kernel
theorem dX7_shiftAll_23 : decode cX7_shiftAll 23 = .ok (.getfield 7, 3) := by decide +kernel
theorem dX7_shiftAll_26 : decode cX7_shiftAll 26 = .ok (.iconst 0, 1) := by decide +kernel
theorem dX7_shiftAll_27 : decode cX7_shiftAll 27 = .ok (.iaload, 1) := by decide +kernel
theorem dX7_shiftAll_28 : decode cX7_shiftAll 28 = .ok (.if_icmp .ge 38, 3) := by decide +kernel
theorem dX7_shiftAll_31 : decode cX7_shiftAll 31 = .ok (.aload_n 0, 1) := by decide +kernel
theorem dX7_shiftAll_32 : decode cX7_shiftAll 32 = .ok (.getfield 7, 3) := by decide +kernel
theorem dX7_shiftAll_35 : decode cX7_shiftAll 35 = .ok (.iconst 2, 1) := by decide +kernel
theorem dX7_shiftAll_36 : decode cX7_shiftAll 36 = .ok (.iload_n 3, 1) := by decide +kernel
theorem dX7_shiftAll_37 : decode cX7_shiftAll 37 = .ok (.iadd, 1) := by decide +kernel
theorem dX7_shiftAll_38 : decode cX7_shiftAll 38 = .ok (.iaload, 1) := by decide +kernel
theorem dX7_shiftAll_39 : decode cX7_shiftAll 39 = .ok (.iload_n 1, 1) := by decide +kernel
theorem dX7_shiftAll_40 : decode cX7_shiftAll 40 = .ok (.iadd, 1) := by decide +kernel
theorem dX7_shiftAll_41 : decode cX7_shiftAll 41 = .ok (.aload_n 0, 1) := by decide +kernel
theorem dX7_shiftAll_42 : decode cX7_shiftAll 42 = .ok (.getfield 7, 3) := by decide +kernel
theorem dX7_shiftAll_45 : decode cX7_shiftAll 45 = .ok (.bipush 16, 2) := by decide +kernel
theorem dX7_shiftAll_47 : decode cX7_shiftAll 47 = .ok (.iload_n 3, 1) := by decide +kernel
theorem dX7_shiftAll_48 : decode cX7_shiftAll 48 = .ok (.iadd, 1) := by decide +kernel
theorem dX7_shiftAll_49 : decode cX7_shiftAll 49 = .ok (.iaload, 1) := by decide +kernel
theorem dX7_shiftAll_50 : decode cX7_shiftAll 50 = .ok (.iload_n 2, 1) := by decide +kernel
theorem dX7_shiftAll_51 : decode cX7_shiftAll 51 = .ok (.iadd, 1) := by decide +kernel
theorem dX7_shiftAll_52 : decode cX7_shiftAll 52 = .ok (.invokestatic 96, 3) := by decide +kernel
theorem dX7_shiftAll_55 : decode cX7_shiftAll 55 = .ok (.ifCond .ne 5, 3) := by decide +kernel
theorem dX7_shiftAll_58 : decode cX7_shiftAll 58 = .ok (.iconst (-1), 1) := by decide +kernel
theorem dX7_shiftAll_59 : decode cX7_shiftAll 59 = .ok (.ireturn, 1) := by decide +kernel
theorem dX7_shiftAll_60 : decode cX7_shiftAll 60 = .ok (.iinc 3 1, 3) := by decide +kernel
theorem dX7_shiftAll_63 : decode cX7_shiftAll 63 = .ok (.goto (-42), 3) := by decide +kernel
theorem dX7_shiftAll_66 : decode cX7_shiftAll 66 = .ok (.aload_n 0, 1) := by decide +kernel
theorem dX7_shiftAll_67 : decode cX7_shiftAll 67 = .ok (.invokevirtual 100, 3) := by decide +kernel
theorem dX7_shiftAll_70 : decode cX7_shiftAll 70 = .ok (.iconst 0, 1) := by decide +kernel
theorem dX7_shiftAll_71 : decode cX7_shiftAll 71 = .ok (.istore_n 3, 1) := by decide +kernel
theorem dX7_shiftAll_72 : decode cX7_shiftAll 72 = .ok (.iload_n 3, 1) := by decide +kernel
theorem dX7_shiftAll_73 : decode cX7_shiftAll 73 = .ok (.aload_n 0, 1) := by decide +kernel
theorem dX7_shiftAll_74 : decode cX7_shiftAll 74 = .ok (.getfield 7, 3) := by decide +kernel
theorem dX7_shiftAll_77 : decode cX7_shiftAll 77 = .ok (.iconst 0, 1) := by decide +kernel
theorem dX7_shiftAll_78 : decode cX7_shiftAll 78 = .ok (.iaload, 1) := by decide +kernel
theorem dX7_shiftAll_79 : decode cX7_shiftAll 79 = .ok (.if_icmp .ge 34, 3) := by decide +kernel
theorem dX7_shiftAll_82 : decode cX7_shiftAll 82 = .ok (.aload_n 0, 1) := by decide +kernel
theorem dX7_shiftAll_83 : decode cX7_shiftAll 83 = .ok (.getfield 7, 3) := by decide +kernel
theorem dX7_shiftAll_86 : decode cX7_shiftAll 86 = .ok (.iconst 2, 1) := by decide +kernel
theorem dX7_shiftAll_87 : decode cX7_shiftAll 87 = .ok (.iload_n 3, 1) := by decide +kernel
theorem dX7_shiftAll_88 : decode cX7_shiftAll 88 = .ok (.iadd, 1) := by decide +kernel
theorem dX7_shiftAll_89 : decode cX7_shiftAll 89 = .ok (.dup2, 1) := by decide +kernel
theorem dX7_shiftAll_90 : decode cX7_shiftAll 90 = .ok (.iaload, 1) := by decide +kernel
theorem dX7_shiftAll_91 : decode cX7_shiftAll 91 = .ok (.iload_n 1, 1) := by decide +kernel
theorem dX7_shiftAll_92 : decode cX7_shiftAll 92 = .ok (.iadd, 1) := by decide +kernel
theorem dX7_shiftAll_93 : decode cX7_shiftAll 93 = .ok (.iastore, 1) := by decide +kernel
theorem dX7_shiftAll_94 : decode cX7_shiftAll 94 = .ok (.aload_n 0, 1) := by decide +kernel
theorem dX7_shiftAll_95 : decode cX7_shiftAll 95 = .ok (.getfield 7, 3) := by decide +kernel
theorem dX7_shiftAll_98 : decode cX7_shiftAll 98 = .ok (.bipush 16, 2) := by decide +kernel
theorem dX7_shiftAll_100 : decode cX7_shiftAll 100 = .ok (.iload_n 3, 1) := by decide +kernel
theorem dX7_shiftAll_101 : decode cX7_shiftAll 101 = .ok (.iadd, 1) := by decide +kernel
theorem dX7_shiftAll_102 : decode cX7_shiftAll 102 = .ok (.dup2, 1) := by decide +kernel
theorem dX7_shiftAll_103 : decode cX7_shiftAll 103 = .ok (.iaload, 1) := by decide +kernel
theorem dX7_shiftAll_104 : decode cX7_shiftAll 104 = .ok (.iload_n 2, 1) := by decide +kernel
theorem dX7_shiftAll_105 : decode cX7_shiftAll 105 = .ok (.iadd, 1) := by decide +kernel
theorem dX7_shiftAll_106 : decode cX7_shiftAll 106 = .ok (.iastore, 1) := by decide +kernel
theorem dX7_shiftAll_107 : decode cX7_shiftAll 107 = .ok (.iinc 3 1, 3) := by decide +kernel
theorem dX7_shiftAll_110 : decode cX7_shiftAll 110 = .ok (.goto (-38), 3) := by decide +kernel
theorem dX7_shiftAll_113 : decode cX7_shiftAll 113 = .ok (.aload_n 0, 1) := by decide +kernel
theorem dX7_shiftAll_114 : decode cX7_shiftAll 114 = .ok (.getfield 7, 3) := by decide +kernel
theorem dX7_shiftAll_117 : decode cX7_shiftAll 117 = .ok (.iconst 0, 1) := by decide +kernel
theorem dX7_shiftAll_118 : decode cX7_shiftAll 118 = .ok (.iaload, 1) := by decide +kernel
theorem dX7_shiftAll_119 : decode cX7_shiftAll 119 = .ok (.ireturn, 1) := by decide +kernel
theorem dX7_mode_0 : decode cX7_mode 0 = .ok (.iload_n 1, 1) := by decide +kernel
theorem dX7_mode_1 : decode cX7_mode 1 = .ok (.iconst 0, 1) := by decide +kernel
theorem dX7_mode_2 : decode cX7_mode 2 = .ok (.iconst 2, 1) := by decide +kernel
theorem dX7_mode_3 : decode cX7_mode 3 = .ok (.invokestatic 68, 3) := by decide +kernel
theorem dX7_mode_6 : decode cX7_mode 6 = .ok (.ifCond .ne 5, 3) := by decide +kernel
theorem dX7_mode_9 : decode cX7_mode 9 = .ok (.iconst (-1), 1) := by decide +kernel
theorem dX7_mode_10 : decode cX7_mode 10 = .ok (.ireturn, 1) := by decide +kernel
theorem dX7_mode_11 : decode cX7_mode 11 = .ok (.aload_n 0, 1) := by decide +kernel
theorem dX7_mode_12 : decode cX7_mode 12 = .ok (.getfield 7, 3) := by decide +kernel
theorem dX7_mode_15 : decode cX7_mode 15 = .ok (.iconst 1, 1) := by decide +kernel
theorem dX7_mode_16 : decode cX7_mode 16 = .ok (.iaload, 1) := by decide +kernel
theorem dX7_mode_17 : decode cX7_mode 17 = .ok (.istore_n 2, 1) := by decide +kernel
theorem dX7_mode_18 : decode cX7_mode 18 = .ok (.iload_n 2, 1) := by decide +kernel
theorem dX7_mode_19 : decode cX7_mode 19 = .ok (.iload_n 1, 1) := by decide +kernel
theorem dX7_mode_20 : decode cX7_mode 20 = .ok (.if_icmp .ne 6, 3) := by decide +kernel
theorem dX7_mode_23 : decode cX7_mode 23 = .ok (.bipush (-2), 2) := by decide +kernel
theorem dX7_mode_25 : decode cX7_mode 25 = .ok (.ireturn, 1) := by decide +kernel
theorem dX7_mode_26 : decode cX7_mode 26 = .ok (.aload_n 0, 1) := by decide +kernel
theorem dX7_mode_27 : decode cX7_mode 27 = .ok (.invokevirtual 100, 3) := by decide +kernel
theorem dX7_mode_30 : decode cX7_mode 30 = .ok (.aload_n 0, 1) := by decide +kernel
theorem dX7_mode_31 : decode cX7_mode 31 = .ok (.getfield 7, 3) := by decide +kernel
theorem dX7_mode_34 : decode cX7_mode 34 = .ok (.iconst 1, 1) := by decide +kernel
theorem dX7_mode_35 : decode cX7_mode 35 = .ok (.iload_n 1, 1) := by decide +kernel
theorem dX7_mode_36 : decode cX7_mode 36 = .ok (.iastore, 1) := by decide +kernel
theorem dX7_mode_37 : decode cX7_mode 37 = .ok (.iload_n 2, 1) := by decide +kernel
theorem dX7_mode_38 : decode cX7_mode 38 = .ok (.ireturn, 1) := by decide +kernel
theorem dX7_undo_0 : decode cX7_undo 0 = .ok (.aload_n 0, 1) := by decide +kernel
theorem dX7_undo_1 : decode cX7_undo 1 = .ok (.getfield 86, 3) := by decide +kernel
theorem dX7_undo_4 : decode cX7_undo 4 = .ok (.ifCond .ne 6, 3) := by decide +kernel
theorem dX7_undo_7 : decode cX7_undo 7 = .ok (.bipush (-2), 2) := by decide +kernel
theorem dX7_undo_9 : decode cX7_undo 9 = .ok (.ireturn, 1) := by decide +kernel
theorem dX7_undo_10 : decode cX7_undo 10 = .ok (.aload_n 0, 1) := by decide +kernel
theorem dX7_undo_11 : decode cX7_undo 11 = .ok (.dup, 1) := by decide +kernel
theorem dX7_undo_12 : decode cX7_undo 12 = .ok (.getfield 86, 3) := by decide +kernel
theorem dX7_undo_15 : decode cX7_undo 15 = .ok (.iconst 1, 1) := by decide +kernel
theorem dX7_undo_16 : decode cX7_undo 16 = .ok (.isub, 1) := by decide +kernel
theorem dX7_undo_17 : decode cX7_undo 17 = .ok (.putfield 86, 3) := by decide +kernel
theorem dX7_undo_20 : decode cX7_undo 20 = .ok (.aload_n 0, 1) := by decide +kernel
theorem dX7_undo_21 : decode cX7_undo 21 = .ok (.getfield 19, 3) := by decide +kernel
theorem dX7_undo_24 : decode cX7_undo 24 = .ok (.bipush 30, 2) := by decide +kernel
theorem dX7_undo_26 : decode cX7_undo 26 = .ok (.aload_n 0, 1) := by decide +kernel
theorem dX7_undo_27 : decode cX7_undo 27 = .ok (.getfield 86, 3) := by decide +kernel
theorem dX7_undo_30 : decode cX7_undo 30 = .ok (.imul, 1) := by decide +kernel
theorem dX7_undo_31 : decode cX7_undo 31 = .ok (.aload_n 0, 1) := by decide +kernel
theorem dX7_undo_32 : decode cX7_undo 32 = .ok (.getfield 7, 3) := by decide +kernel
theorem dX7_undo_35 : decode cX7_undo 35 = .ok (.iconst 0, 1) := by decide +kernel
theorem dX7_undo_36 : decode cX7_undo 36 = .ok (.invokestatic 49, 3) := by decide +kernel
theorem dX7_undo_39 : decode cX7_undo 39 = .ok (.aload_n 0, 1) := by decide +kernel
theorem dX7_undo_40 : decode cX7_undo 40 = .ok (.getfield 86, 3) := by decide +kernel
theorem dX7_undo_43 : decode cX7_undo 43 = .ok (.ireturn, 1) := by decide +kernel
theorem dX7_standsAt_0 : decode cX7_standsAt 0 = .ok (.iload_n 1, 1) := by decide +kernel
theorem dX7_standsAt_1 : decode cX7_standsAt 1 = .ok (.iload_n 2, 1) := by decide +kernel
theorem dX7_standsAt_2 : decode cX7_standsAt 2 = .ok (.invokestatic 96, 3) := by decide +kernel
theorem dX7_standsAt_5 : decode cX7_standsAt 5 = .ok (.ifCond .eq 17, 3) := by decide +kernel
theorem dX7_standsAt_8 : decode cX7_standsAt 8 = .ok (.aload_n 0, 1) := by decide +kernel
theorem dX7_standsAt_9 : decode cX7_standsAt 9 = .ok (.getfield 28, 3) := by decide +kernel
theorem dX7_standsAt_12 : decode cX7_standsAt 12 = .ok (.bipush 12, 2) := by decide +kernel
theorem dX7_standsAt_14 : decode cX7_standsAt 14 = .ok (.iload_n 1, 1) := by decide +kernel
theorem dX7_standsAt_15 : decode cX7_standsAt 15 = .ok (.imul, 1) := by decide +kernel
theorem dX7_standsAt_16 : decode cX7_standsAt 16 = .ok (.iload_n 2, 1) := by decide +kernel
theorem dX7_standsAt_17 : decode cX7_standsAt 17 = .ok (.iadd, 1) := by decide +kernel
theorem dX7_standsAt_18 : decode cX7_standsAt 18 = .ok (.iaload, 1) := by decide +kernel
theorem dX7_standsAt_19 : decode cX7_standsAt 19 = .ok (.goto 5, 3) := by decide +kernel
theorem dX7_standsAt_22 : decode cX7_standsAt 22 = .ok (.bipush (-4), 2) := by decide +kernel
theorem dX7_standsAt_24 : decode cX7_standsAt 24 = .ok (.ireturn, 1) := by decide +kernel
theorem dX7_metBy_0 : decode cX7_metBy 0 = .ok (.aload_n 1, 1) := by decide +kernel
theorem dX7_metBy_1 : decode cX7_metBy 1 = .ok (.iconst 2, 1) := by decide +kernel
theorem dX7_metBy_2 : decode cX7_metBy 2 = .ok (.iload_n 2, 1) := by decide +kernel
theorem dX7_metBy_3 : decode cX7_metBy 3 = .ok (.iadd, 1) := by decide +kernel
theorem dX7_metBy_4 : decode cX7_metBy 4 = .ok (.iaload, 1) := by decide +kernel
theorem dX7_metBy_5 : decode cX7_metBy 5 = .ok (.iload_n 3, 1) := by decide +kernel
theorem dX7_metBy_6 : decode cX7_metBy 6 = .ok (.iadd, 1) := by decide +kernel
theorem dX7_metBy_7 : decode cX7_metBy 7 = .ok (.istore 5, 2) := by decide +kernel
theorem dX7_metBy_9 : decode cX7_metBy 9 = .ok (.aload_n 1, 1) := by decide +kernel
theorem dX7_metBy_10 : decode cX7_metBy 10 = .ok (.bipush 16, 2) := by decide +kernel
theorem dX7_metBy_12 : decode cX7_metBy 12 = .ok (.iload_n 2, 1) := by decide +kernel
theorem dX7_metBy_13 : decode cX7_metBy 13 = .ok (.iadd, 1) := by decide +kernel
theorem dX7_metBy_14 : decode cX7_metBy 14 = .ok (.iaload, 1) := by decide +kernel
theorem dX7_metBy_15 : decode cX7_metBy 15 = .ok (.iload 4, 2) := by decide +kernel
theorem dX7_metBy_17 : decode cX7_metBy 17 = .ok (.iadd, 1) := by decide +kernel
theorem dX7_metBy_18 : decode cX7_metBy 18 = .ok (.istore 6, 2) := by decide +kernel
theorem dX7_metBy_20 : decode cX7_metBy 20 = .ok (.aload_n 0, 1) := by decide +kernel
theorem dX7_metBy_21 : decode cX7_metBy 21 = .ok (.getfield 110, 3) := by decide +kernel
theorem dX7_metBy_24 : decode cX7_metBy 24 = .ok (.iconst 1, 1) := by decide +kernel
theorem dX7_metBy_25 : decode cX7_metBy 25 = .ok (.if_icmp .ne 18, 3) := by decide +kernel
theorem dX7_metBy_28 : decode cX7_metBy 28 = .ok (.aload_n 0, 1) := by decide +kernel
theorem dX7_metBy_29 : decode cX7_metBy 29 = .ok (.iload 5, 2) := by decide +kernel
theorem dX7_metBy_31 : decode cX7_metBy 31 = .ok (.iload 6, 2) := by decide +kernel
theorem dX7_metBy_33 : decode cX7_metBy 33 = .ok (.bipush 12, 2) := by decide +kernel
theorem dX7_metBy_35 : decode cX7_metBy 35 = .ok (.iadd, 1) := by decide +kernel
theorem dX7_metBy_36 : decode cX7_metBy 36 = .ok (.bipush 12, 2) := by decide +kernel
theorem dX7_metBy_38 : decode cX7_metBy 38 = .ok (.irem, 1) := by decide +kernel
theorem dX7_metBy_39 : decode cX7_metBy 39 = .ok (.invokevirtual 113, 3) := by decide +kernel
theorem dX7_metBy_42 : decode cX7_metBy 42 = .ok (.ireturn, 1) := by decide +kernel
theorem dX7_metBy_43 : decode cX7_metBy 43 = .ok (.aload_n 0, 1) := by decide +kernel
theorem dX7_metBy_44 : decode cX7_metBy 44 = .ok (.iload 5, 2) := by decide +kernel
theorem dX7_metBy_46 : decode cX7_metBy 46 = .ok (.iload 6, 2) := by decide +kernel
theorem dX7_metBy_48 : decode cX7_metBy 48 = .ok (.invokevirtual 113, 3) := by decide +kernel
theorem dX7_metBy_51 : decode cX7_metBy 51 = .ok (.istore 7, 2) := by decide +kernel
theorem dX7_metBy_53 : decode cX7_metBy 53 = .ok (.iload 7, 2) := by decide +kernel
theorem dX7_metBy_55 : decode cX7_metBy 55 = .ok (.bipush (-4), 2) := by decide +kernel
theorem dX7_metBy_57 : decode cX7_metBy 57 = .ok (.if_icmp .ne 47, 3) := by decide +kernel
theorem dX7_metBy_60 : decode cX7_metBy 60 = .ok (.aload_n 0, 1) := by decide +kernel
theorem dX7_metBy_61 : decode cX7_metBy 61 = .ok (.getfield 110, 3) := by decide +kernel
theorem dX7_metBy_64 : decode cX7_metBy 64 = .ok (.iconst 2, 1) := by decide +kernel
theorem dX7_metBy_65 : decode cX7_metBy 65 = .ok (.if_icmp .ne 39, 3) := by decide +kernel
theorem dX7_metBy_68 : decode cX7_metBy 68 = .ok (.aload_n 0, 1) := by decide +kernel
theorem dX7_metBy_69 : decode cX7_metBy 69 = .ok (.iload 5, 2) := by decide +kernel
theorem dX7_metBy_71 : decode cX7_metBy 71 = .ok (.iload 6, 2) := by decide +kernel
theorem dX7_metBy_73 : decode cX7_metBy 73 = .ok (.iconst 1, 1) := by decide +kernel
theorem dX7_metBy_74 : decode cX7_metBy 74 = .ok (.isub, 1) := by decide +kernel
theorem dX7_metBy_75 : decode cX7_metBy 75 = .ok (.invokevirtual 113, 3) := by decide +kernel
theorem dX7_metBy_78 : decode cX7_metBy 78 = .ok (.istore 7, 2) := by decide +kernel
theorem dX7_metBy_80 : decode cX7_metBy 80 = .ok (.iload 7, 2) := by decide +kernel
theorem dX7_metBy_82 : decode cX7_metBy 82 = .ok (.bipush (-4), 2) := by decide +kernel
theorem dX7_metBy_84 : decode cX7_metBy 84 = .ok (.if_icmp .ne 16, 3) := by decide +kernel
theorem dX7_metBy_87 : decode cX7_metBy 87 = .ok (.aload_n 0, 1) := by decide +kernel
theorem dX7_metBy_88 : decode cX7_metBy 88 = .ok (.iload 5, 2) := by decide +kernel
theorem dX7_metBy_90 : decode cX7_metBy 90 = .ok (.iload 6, 2) := by decide +kernel
theorem dX7_metBy_92 : decode cX7_metBy 92 = .ok (.iconst 1, 1) := by decide +kernel
theorem dX7_metBy_93 : decode cX7_metBy 93 = .ok (.iadd, 1) := by decide +kernel
theorem dX7_metBy_94 : decode cX7_metBy 94 = .ok (.invokevirtual 113, 3) := by decide +kernel
theorem dX7_metBy_97 : decode cX7_metBy 97 = .ok (.goto 5, 3) := by decide +kernel
theorem dX7_metBy_100 : decode cX7_metBy 100 = .ok (.iload 7, 2) := by decide +kernel
theorem dX7_metBy_102 : decode cX7_metBy 102 = .ok (.istore 7, 2) := by decide +kernel
theorem dX7_metBy_104 : decode cX7_metBy 104 = .ok (.iload 7, 2) := by decide +kernel
theorem dX7_metBy_106 : decode cX7_metBy 106 = .ok (.ireturn, 1) := by decide +kernel
theorem dX7_firstPitch_0 : decode cX7_firstPitch 0 = .ok (.aload_n 0, 1) := by decide +kernel
theorem dX7_firstPitch_1 : decode cX7_firstPitch 1 = .ok (.getfield 110, 3) := by decide +kernel
theorem dX7_firstPitch_4 : decode cX7_firstPitch 4 = .ok (.iconst 1, 1) := by decide +kernel
theorem dX7_firstPitch_5 : decode cX7_firstPitch 5 = .ok (.if_icmp .ne 7, 3) := by decide +kernel
theorem dX7_firstPitch_8 : decode cX7_firstPitch 8 = .ok (.iconst 0, 1) := by decide +kernel
theorem dX7_firstPitch_9 : decode cX7_firstPitch 9 = .ok (.goto 5, 3) := by decide +kernel
theorem dX7_firstPitch_12 : decode cX7_firstPitch 12 = .ok (.bipush (-11), 2) := by decide +kernel
theorem dX7_firstPitch_14 : decode cX7_firstPitch 14 = .ok (.ireturn, 1) := by decide +kernel
theorem dX7_lays_0 : decode cX7_lays 0 = .ok (.aload_n 0, 1) := by decide +kernel
theorem dX7_lays_1 : decode cX7_lays 1 = .ok (.aload_n 1, 1) := by decide +kernel
theorem dX7_lays_2 : decode cX7_lays 2 = .ok (.iconst 1, 1) := by decide +kernel
theorem dX7_lays_3 : decode cX7_lays 3 = .ok (.iaload, 1) := by decide +kernel
theorem dX7_lays_4 : decode cX7_lays 4 = .ok (.putfield 110, 3) := by decide +kernel
theorem dX7_lays_7 : decode cX7_lays 7 = .ok (.iconst 0, 1) := by decide +kernel
theorem dX7_lays_8 : decode cX7_lays 8 = .ok (.istore_n 3, 1) := by decide +kernel
theorem dX7_lays_9 : decode cX7_lays 9 = .ok (.iload_n 3, 1) := by decide +kernel
theorem dX7_lays_10 : decode cX7_lays 10 = .ok (.sipush 240, 3) := by decide +kernel
theorem dX7_lays_13 : decode cX7_lays 13 = .ok (.if_icmp .ge 17, 3) := by decide +kernel
theorem dX7_lays_16 : decode cX7_lays 16 = .ok (.aload_n 0, 1) := by decide +kernel
theorem dX7_lays_17 : decode cX7_lays 17 = .ok (.getfield 28, 3) := by decide +kernel
theorem dX7_lays_20 : decode cX7_lays 20 = .ok (.iload_n 3, 1) := by decide +kernel
theorem dX7_lays_21 : decode cX7_lays 21 = .ok (.bipush (-4), 2) := by decide +kernel
theorem dX7_lays_23 : decode cX7_lays 23 = .ok (.iastore, 1) := by decide +kernel
theorem dX7_lays_24 : decode cX7_lays 24 = .ok (.iinc 3 1, 3) := by decide +kernel
theorem dX7_lays_27 : decode cX7_lays 27 = .ok (.goto (-18), 3) := by decide +kernel
theorem dX7_lays_30 : decode cX7_lays 30 = .ok (.iconst 0, 1) := by decide +kernel
theorem dX7_lays_31 : decode cX7_lays 31 = .ok (.istore_n 3, 1) := by decide +kernel
theorem dX7_lays_32 : decode cX7_lays 32 = .ok (.iload_n 3, 1) := by decide +kernel
theorem dX7_lays_33 : decode cX7_lays 33 = .ok (.aload_n 1, 1) := by decide +kernel
theorem dX7_lays_34 : decode cX7_lays 34 = .ok (.iconst 0, 1) := by decide +kernel
theorem dX7_lays_35 : decode cX7_lays 35 = .ok (.iaload, 1) := by decide +kernel
theorem dX7_lays_36 : decode cX7_lays 36 = .ok (.if_icmp .ge 38, 3) := by decide +kernel
theorem dX7_lays_39 : decode cX7_lays 39 = .ok (.iload_n 2, 1) := by decide +kernel
theorem dX7_lays_40 : decode cX7_lays 40 = .ok (.iload_n 3, 1) := by decide +kernel
theorem dX7_lays_41 : decode cX7_lays 41 = .ok (.invokestatic 116, 3) := by decide +kernel
theorem dX7_lays_44 : decode cX7_lays 44 = .ok (.ifCond .eq 24, 3) := by decide +kernel
theorem dX7_lays_47 : decode cX7_lays 47 = .ok (.aload_n 0, 1) := by decide +kernel
theorem dX7_lays_48 : decode cX7_lays 48 = .ok (.getfield 28, 3) := by decide +kernel
theorem dX7_lays_51 : decode cX7_lays 51 = .ok (.bipush 12, 2) := by decide +kernel
theorem dX7_lays_53 : decode cX7_lays 53 = .ok (.aload_n 1, 1) := by decide +kernel
theorem dX7_lays_54 : decode cX7_lays 54 = .ok (.iconst 2, 1) := by decide +kernel
theorem dX7_lays_55 : decode cX7_lays 55 = .ok (.iload_n 3, 1) := by decide +kernel
theorem dX7_lays_56 : decode cX7_lays 56 = .ok (.iadd, 1) := by decide +kernel
theorem dX7_lays_57 : decode cX7_lays 57 = .ok (.iaload, 1) := by decide +kernel
theorem dX7_lays_58 : decode cX7_lays 58 = .ok (.imul, 1) := by decide +kernel
theorem dX7_lays_59 : decode cX7_lays 59 = .ok (.aload_n 1, 1) := by decide +kernel
theorem dX7_lays_60 : decode cX7_lays 60 = .ok (.bipush 16, 2) := by decide +kernel
theorem dX7_lays_62 : decode cX7_lays 62 = .ok (.iload_n 3, 1) := by decide +kernel
theorem dX7_lays_63 : decode cX7_lays 63 = .ok (.iadd, 1) := by decide +kernel
theorem dX7_lays_64 : decode cX7_lays 64 = .ok (.iaload, 1) := by decide +kernel
theorem dX7_lays_65 : decode cX7_lays 65 = .ok (.iadd, 1) := by decide +kernel
theorem dX7_lays_66 : decode cX7_lays 66 = .ok (.iload_n 3, 1) := by decide +kernel
theorem dX7_lays_67 : decode cX7_lays 67 = .ok (.iastore, 1) := by decide +kernel
theorem dX7_lays_68 : decode cX7_lays 68 = .ok (.iinc 3 1, 3) := by decide +kernel
theorem dX7_lays_71 : decode cX7_lays 71 = .ok (.goto (-39), 3) := by decide +kernel
theorem dX7_lays_74 : decode cX7_lays 74 = .ok (.bipush (-19), 2) := by decide +kernel
theorem dX7_lays_76 : decode cX7_lays 76 = .ok (.istore_n 3, 1) := by decide +kernel
theorem dX7_lays_77 : decode cX7_lays 77 = .ok (.iload_n 3, 1) := by decide +kernel
theorem dX7_lays_78 : decode cX7_lays 78 = .ok (.bipush 20, 2) := by decide +kernel
theorem dX7_lays_80 : decode cX7_lays 80 = .ok (.if_icmp .ge 112, 3) := by decide +kernel
theorem dX7_lays_83 : decode cX7_lays 83 = .ok (.bipush (-11), 2) := by decide +kernel
theorem dX7_lays_85 : decode cX7_lays 85 = .ok (.istore 4, 2) := by decide +kernel
theorem dX7_lays_87 : decode cX7_lays 87 = .ok (.iload 4, 2) := by decide +kernel
theorem dX7_lays_89 : decode cX7_lays 89 = .ok (.bipush 12, 2) := by decide +kernel
theorem dX7_lays_91 : decode cX7_lays 91 = .ok (.if_icmp .ge 95, 3) := by decide +kernel
theorem dX7_lays_94 : decode cX7_lays 94 = .ok (.iconst 0, 1) := by decide +kernel
theorem dX7_lays_95 : decode cX7_lays 95 = .ok (.istore 5, 2) := by decide +kernel
theorem dX7_lays_97 : decode cX7_lays 97 = .ok (.iconst 0, 1) := by decide +kernel
theorem dX7_lays_98 : decode cX7_lays 98 = .ok (.istore 6, 2) := by decide +kernel
theorem dX7_lays_100 : decode cX7_lays 100 = .ok (.iload 6, 2) := by decide +kernel
theorem dX7_lays_102 : decode cX7_lays 102 = .ok (.aload_n 1, 1) := by decide +kernel
theorem dX7_lays_103 : decode cX7_lays 103 = .ok (.iconst 0, 1) := by decide +kernel
theorem dX7_lays_104 : decode cX7_lays 104 = .ok (.iaload, 1) := by decide +kernel
theorem dX7_lays_105 : decode cX7_lays 105 = .ok (.if_icmp .ge 55, 3) := by decide +kernel
theorem dX7_lays_108 : decode cX7_lays 108 = .ok (.iload 4, 2) := by decide +kernel
theorem dX7_lays_110 : decode cX7_lays 110 = .ok (.aload_n 0, 1) := by decide +kernel
theorem dX7_lays_111 : decode cX7_lays 111 = .ok (.invokevirtual 119, 3) := by decide +kernel
theorem dX7_lays_114 : decode cX7_lays 114 = .ok (.if_icmp .lt 46, 3) := by decide +kernel
theorem dX7_lays_117 : decode cX7_lays 117 = .ok (.iload 5, 2) := by decide +kernel
theorem dX7_lays_119 : decode cX7_lays 119 = .ok (.iload_n 2, 1) := by decide +kernel
theorem dX7_lays_120 : decode cX7_lays 120 = .ok (.iload 6, 2) := by decide +kernel
theorem dX7_lays_122 : decode cX7_lays 122 = .ok (.invokestatic 116, 3) := by decide +kernel
theorem dX7_lays_125 : decode cX7_lays 125 = .ok (.ifCond .eq 25, 3) := by decide +kernel
theorem dX7_lays_128 : decode cX7_lays 128 = .ok (.aload_n 0, 1) := by decide +kernel
theorem dX7_lays_129 : decode cX7_lays 129 = .ok (.aload_n 1, 1) := by decide +kernel
theorem dX7_lays_130 : decode cX7_lays 130 = .ok (.iload 6, 2) := by decide +kernel
theorem dX7_lays_132 : decode cX7_lays 132 = .ok (.iload_n 3, 1) := by decide +kernel
theorem dX7_lays_133 : decode cX7_lays 133 = .ok (.iload 4, 2) := by decide +kernel
theorem dX7_lays_135 : decode cX7_lays 135 = .ok (.invokevirtual 122, 3) := by decide +kernel
theorem dX7_lays_138 : decode cX7_lays 138 = .ok (.bipush (-4), 2) := by decide +kernel
theorem dX7_lays_140 : decode cX7_lays 140 = .ok (.if_icmp .eq 10, 3) := by decide +kernel
theorem dX7_lays_143 : decode cX7_lays 143 = .ok (.iconst 1, 1) := by decide +kernel
theorem dX7_lays_144 : decode cX7_lays 144 = .ok (.iload 6, 2) := by decide +kernel
theorem dX7_lays_146 : decode cX7_lays 146 = .ok (.ishl, 1) := by decide +kernel
theorem dX7_lays_147 : decode cX7_lays 147 = .ok (.goto 4, 3) := by decide +kernel
theorem dX7_lays_150 : decode cX7_lays 150 = .ok (.iconst 0, 1) := by decide +kernel
theorem dX7_lays_151 : decode cX7_lays 151 = .ok (.ior, 1) := by decide +kernel
theorem dX7_lays_152 : decode cX7_lays 152 = .ok (.istore 5, 2) := by decide +kernel
theorem dX7_lays_154 : decode cX7_lays 154 = .ok (.iinc 6 1, 3) := by decide +kernel
theorem dX7_lays_157 : decode cX7_lays 157 = .ok (.goto (-57), 3) := by decide +kernel
theorem dX7_lays_160 : decode cX7_lays 160 = .ok (.aload_n 0, 1) := by decide +kernel
theorem dX7_lays_161 : decode cX7_lays 161 = .ok (.getfield 31, 3) := by decide +kernel
theorem dX7_lays_164 : decode cX7_lays 164 = .ok (.bipush 23, 2) := by decide +kernel
theorem dX7_lays_166 : decode cX7_lays 166 = .ok (.iload_n 3, 1) := by decide +kernel
theorem dX7_lays_167 : decode cX7_lays 167 = .ok (.bipush 19, 2) := by decide +kernel
theorem dX7_lays_169 : decode cX7_lays 169 = .ok (.iadd, 1) := by decide +kernel
theorem dX7_lays_170 : decode cX7_lays 170 = .ok (.imul, 1) := by decide +kernel
theorem dX7_lays_171 : decode cX7_lays 171 = .ok (.iload 4, 2) := by decide +kernel
theorem dX7_lays_173 : decode cX7_lays 173 = .ok (.iadd, 1) := by decide +kernel
theorem dX7_lays_174 : decode cX7_lays 174 = .ok (.bipush 11, 2) := by decide +kernel
theorem dX7_lays_176 : decode cX7_lays 176 = .ok (.iadd, 1) := by decide +kernel
theorem dX7_lays_177 : decode cX7_lays 177 = .ok (.iload 5, 2) := by decide +kernel
theorem dX7_lays_179 : decode cX7_lays 179 = .ok (.iastore, 1) := by decide +kernel
theorem dX7_lays_180 : decode cX7_lays 180 = .ok (.iinc 4 1, 3) := by decide +kernel
theorem dX7_lays_183 : decode cX7_lays 183 = .ok (.goto (-96), 3) := by decide +kernel
theorem dX7_lays_186 : decode cX7_lays 186 = .ok (.iinc 3 1, 3) := by decide +kernel
theorem dX7_lays_189 : decode cX7_lays 189 = .ok (.goto (-112), 3) := by decide +kernel
theorem dX7_lays_192 : decode cX7_lays 192 = .ok (.return_, 1) := by decide +kernel
theorem dX7_looksAt_0 : decode cX7_looksAt 0 = .ok (.aload_n 0, 1) := by decide +kernel
theorem dX7_looksAt_1 : decode cX7_looksAt 1 = .ok (.iconst 0, 1) := by decide +kernel
theorem dX7_looksAt_2 : decode cX7_looksAt 2 = .ok (.putfield 126, 3) := by decide +kernel
theorem dX7_looksAt_5 : decode cX7_looksAt 5 = .ok (.aload_n 0, 1) := by decide +kernel
theorem dX7_looksAt_6 : decode cX7_looksAt 6 = .ok (.iconst 0, 1) := by decide +kernel
theorem dX7_looksAt_7 : decode cX7_looksAt 7 = .ok (.putfield 129, 3) := by decide +kernel
theorem dX7_looksAt_10 : decode cX7_looksAt 10 = .ok (.iconst 0, 1) := by decide +kernel
theorem dX7_looksAt_11 : decode cX7_looksAt 11 = .ok (.istore_n 3, 1) := by decide +kernel
theorem dX7_looksAt_12 : decode cX7_looksAt 12 = .ok (.iload_n 3, 1) := by decide +kernel
theorem dX7_looksAt_13 : decode cX7_looksAt 13 = .ok (.sipush 897, 3) := by decide +kernel
theorem dX7_looksAt_16 : decode cX7_looksAt 16 = .ok (.if_icmp .ge 93, 3) := by decide +kernel
theorem dX7_looksAt_19 : decode cX7_looksAt 19 = .ok (.aload_n 0, 1) := by decide +kernel
theorem dX7_looksAt_20 : decode cX7_looksAt 20 = .ok (.getfield 31, 3) := by decide +kernel
theorem dX7_looksAt_23 : decode cX7_looksAt 23 = .ok (.iload_n 3, 1) := by decide +kernel
theorem dX7_looksAt_24 : decode cX7_looksAt 24 = .ok (.iaload, 1) := by decide +kernel
theorem dX7_looksAt_25 : decode cX7_looksAt 25 = .ok (.iload_n 2, 1) := by decide +kernel
theorem dX7_looksAt_26 : decode cX7_looksAt 26 = .ok (.iand, 1) := by decide +kernel
theorem dX7_looksAt_27 : decode cX7_looksAt 27 = .ok (.iload_n 2, 1) := by decide +kernel
theorem dX7_looksAt_28 : decode cX7_looksAt 28 = .ok (.if_icmp .ne 75, 3) := by decide +kernel
theorem dX7_looksAt_31 : decode cX7_looksAt 31 = .ok (.aload_n 0, 1) := by decide +kernel
theorem dX7_looksAt_32 : decode cX7_looksAt 32 = .ok (.dup, 1) := by decide +kernel
theorem dX7_looksAt_33 : decode cX7_looksAt 33 = .ok (.getfield 126, 3) := by decide +kernel
theorem dX7_looksAt_36 : decode cX7_looksAt 36 = .ok (.iconst 1, 1) := by decide +kernel
theorem dX7_looksAt_37 : decode cX7_looksAt 37 = .ok (.iadd, 1) := by decide +kernel
theorem dX7_looksAt_38 : decode cX7_looksAt 38 = .ok (.putfield 126, 3) := by decide +kernel
theorem dX7_looksAt_41 : decode cX7_looksAt 41 = .ok (.iconst 0, 1) := by decide +kernel
theorem dX7_looksAt_42 : decode cX7_looksAt 42 = .ok (.istore 4, 2) := by decide +kernel
theorem dX7_looksAt_44 : decode cX7_looksAt 44 = .ok (.iload 4, 2) := by decide +kernel
theorem dX7_looksAt_46 : decode cX7_looksAt 46 = .ok (.aload_n 1, 1) := by decide +kernel
theorem dX7_looksAt_47 : decode cX7_looksAt 47 = .ok (.iconst 0, 1) := by decide +kernel
theorem dX7_looksAt_48 : decode cX7_looksAt 48 = .ok (.iaload, 1) := by decide +kernel
theorem dX7_looksAt_49 : decode cX7_looksAt 49 = .ok (.if_icmp .ge 54, 3) := by decide +kernel
theorem dX7_looksAt_52 : decode cX7_looksAt 52 = .ok (.aload_n 0, 1) := by decide +kernel
theorem dX7_looksAt_53 : decode cX7_looksAt 53 = .ok (.dup, 1) := by decide +kernel
theorem dX7_looksAt_54 : decode cX7_looksAt 54 = .ok (.getfield 129, 3) := by decide +kernel
theorem dX7_looksAt_57 : decode cX7_looksAt 57 = .ok (.iload_n 2, 1) := by decide +kernel
theorem dX7_looksAt_58 : decode cX7_looksAt 58 = .ok (.iload 4, 2) := by decide +kernel
theorem dX7_looksAt_60 : decode cX7_looksAt 60 = .ok (.invokestatic 116, 3) := by decide +kernel
theorem dX7_looksAt_63 : decode cX7_looksAt 63 = .ok (.ifCond .eq 29, 3) := by decide +kernel
theorem dX7_looksAt_66 : decode cX7_looksAt 66 = .ok (.iconst 1, 1) := by decide +kernel
theorem dX7_looksAt_67 : decode cX7_looksAt 67 = .ok (.aload_n 0, 1) := by decide +kernel
theorem dX7_looksAt_68 : decode cX7_looksAt 68 = .ok (.aload_n 1, 1) := by decide +kernel
theorem dX7_looksAt_69 : decode cX7_looksAt 69 = .ok (.iload 4, 2) := by decide +kernel
theorem dX7_looksAt_71 : decode cX7_looksAt 71 = .ok (.iload_n 3, 1) := by decide +kernel
theorem dX7_looksAt_72 : decode cX7_looksAt 72 = .ok (.bipush 23, 2) := by decide +kernel
theorem dX7_looksAt_74 : decode cX7_looksAt 74 = .ok (.idiv, 1) := by decide +kernel
theorem dX7_looksAt_75 : decode cX7_looksAt 75 = .ok (.bipush 19, 2) := by decide +kernel
theorem dX7_looksAt_77 : decode cX7_looksAt 77 = .ok (.isub, 1) := by decide +kernel
theorem dX7_looksAt_78 : decode cX7_looksAt 78 = .ok (.iload_n 3, 1) := by decide +kernel
theorem dX7_looksAt_79 : decode cX7_looksAt 79 = .ok (.bipush 23, 2) := by decide +kernel
theorem dX7_looksAt_81 : decode cX7_looksAt 81 = .ok (.irem, 1) := by decide +kernel
theorem dX7_looksAt_82 : decode cX7_looksAt 82 = .ok (.bipush 11, 2) := by decide +kernel
theorem dX7_looksAt_84 : decode cX7_looksAt 84 = .ok (.isub, 1) := by decide +kernel
theorem dX7_looksAt_85 : decode cX7_looksAt 85 = .ok (.invokevirtual 122, 3) := by decide +kernel
theorem dX7_looksAt_88 : decode cX7_looksAt 88 = .ok (.ishl, 1) := by decide +kernel
theorem dX7_looksAt_89 : decode cX7_looksAt 89 = .ok (.goto 4, 3) := by decide +kernel
theorem dX7_looksAt_92 : decode cX7_looksAt 92 = .ok (.iconst 0, 1) := by decide +kernel
theorem dX7_looksAt_93 : decode cX7_looksAt 93 = .ok (.ior, 1) := by decide +kernel
theorem dX7_looksAt_94 : decode cX7_looksAt 94 = .ok (.putfield 129, 3) := by decide +kernel
theorem dX7_looksAt_97 : decode cX7_looksAt 97 = .ok (.iinc 4 1, 3) := by decide +kernel
theorem dX7_looksAt_100 : decode cX7_looksAt 100 = .ok (.goto (-56), 3) := by decide +kernel
theorem dX7_looksAt_103 : decode cX7_looksAt 103 = .ok (.iinc 3 1, 3) := by decide +kernel
theorem dX7_looksAt_106 : decode cX7_looksAt 106 = .ok (.goto (-94), 3) := by decide +kernel
theorem dX7_looksAt_109 : decode cX7_looksAt 109 = .ok (.return_, 1) := by decide +kernel
theorem dX7_gainOf_0 : decode cX7_gainOf 0 = .ok (.aload_n 0, 1) := by decide +kernel
theorem dX7_gainOf_1 : decode cX7_gainOf 1 = .ok (.getfield 129, 3) := by decide +kernel
theorem dX7_gainOf_4 : decode cX7_gainOf 4 = .ok (.invokestatic 132, 3) := by decide +kernel
theorem dX7_gainOf_7 : decode cX7_gainOf 7 = .ok (.iload_n 1, 1) := by decide +kernel
theorem dX7_gainOf_8 : decode cX7_gainOf 8 = .ok (.invokestatic 132, 3) := by decide +kernel
theorem dX7_gainOf_11 : decode cX7_gainOf 11 = .ok (.isub, 1) := by decide +kernel
theorem dX7_gainOf_12 : decode cX7_gainOf 12 = .ok (.aload_n 0, 1) := by decide +kernel
theorem dX7_gainOf_13 : decode cX7_gainOf 13 = .ok (.getfield 126, 3) := by decide +kernel
theorem dX7_gainOf_16 : decode cX7_gainOf 16 = .ok (.isub, 1) := by decide +kernel
theorem dX7_gainOf_17 : decode cX7_gainOf 17 = .ok (.iconst 1, 1) := by decide +kernel
theorem dX7_gainOf_18 : decode cX7_gainOf 18 = .ok (.iadd, 1) := by decide +kernel
theorem dX7_gainOf_19 : decode cX7_gainOf 19 = .ok (.ireturn, 1) := by decide +kernel
theorem dX7_isNew_0 : decode cX7_isNew 0 = .ok (.iconst 0, 1) := by decide +kernel
theorem dX7_isNew_1 : decode cX7_isNew 1 = .ok (.istore_n 2, 1) := by decide +kernel
theorem dX7_isNew_2 : decode cX7_isNew 2 = .ok (.iload_n 2, 1) := by decide +kernel
theorem dX7_isNew_3 : decode cX7_isNew 3 = .ok (.aload_n 0, 1) := by decide +kernel
theorem dX7_isNew_4 : decode cX7_isNew 4 = .ok (.getfield 136, 3) := by decide +kernel
theorem dX7_isNew_7 : decode cX7_isNew 7 = .ok (.if_icmp .ge 21, 3) := by decide +kernel
theorem dX7_isNew_10 : decode cX7_isNew 10 = .ok (.aload_n 0, 1) := by decide +kernel
theorem dX7_isNew_11 : decode cX7_isNew 11 = .ok (.getfield 34, 3) := by decide +kernel
theorem dX7_isNew_14 : decode cX7_isNew 14 = .ok (.iload_n 2, 1) := by decide +kernel
theorem dX7_isNew_15 : decode cX7_isNew 15 = .ok (.iaload, 1) := by decide +kernel
theorem dX7_isNew_16 : decode cX7_isNew 16 = .ok (.iload_n 1, 1) := by decide +kernel
theorem dX7_isNew_17 : decode cX7_isNew 17 = .ok (.if_icmp .ne 5, 3) := by decide +kernel
theorem dX7_isNew_20 : decode cX7_isNew 20 = .ok (.iconst 0, 1) := by decide +kernel
theorem dX7_isNew_21 : decode cX7_isNew 21 = .ok (.ireturn, 1) := by decide +kernel
theorem dX7_isNew_22 : decode cX7_isNew 22 = .ok (.iinc 2 1, 3) := by decide +kernel
theorem dX7_isNew_25 : decode cX7_isNew 25 = .ok (.goto (-23), 3) := by decide +kernel
theorem dX7_isNew_28 : decode cX7_isNew 28 = .ok (.iconst 1, 1) := by decide +kernel
theorem dX7_isNew_29 : decode cX7_isNew 29 = .ok (.ireturn, 1) := by decide +kernel
theorem dX7_findsShapes_0 : decode cX7_findsShapes 0 = .ok (.aload_n 0, 1) := by decide +kernel
theorem dX7_findsShapes_1 : decode cX7_findsShapes 1 = .ok (.aload_n 1, 1) := by decide +kernel
theorem dX7_findsShapes_2 : decode cX7_findsShapes 2 = .ok (.iload_n 2, 1) := by decide +kernel
theorem dX7_findsShapes_3 : decode cX7_findsShapes 3 = .ok (.invokevirtual 139, 3) := by decide +kernel
theorem dX7_findsShapes_6 : decode cX7_findsShapes 6 = .ok (.aload_n 0, 1) := by decide +kernel
theorem dX7_findsShapes_7 : decode cX7_findsShapes 7 = .ok (.iconst 0, 1) := by decide +kernel
theorem dX7_findsShapes_8 : decode cX7_findsShapes 8 = .ok (.putfield 136, 3) := by decide +kernel
theorem dX7_findsShapes_11 : decode cX7_findsShapes 11 = .ok (.sipush 449, 3) := by decide +kernel
theorem dX7_findsShapes_14 : decode cX7_findsShapes 14 = .ok (.istore_n 3, 1) := by decide +kernel
theorem dX7_findsShapes_15 : decode cX7_findsShapes 15 = .ok (.iload_n 3, 1) := by decide +kernel
theorem dX7_findsShapes_16 : decode cX7_findsShapes 16 = .ok (.sipush 897, 3) := by decide +kernel
theorem dX7_findsShapes_19 : decode cX7_findsShapes 19 = .ok (.if_icmp .ge 60, 3) := by decide +kernel
theorem dX7_findsShapes_22 : decode cX7_findsShapes 22 = .ok (.aload_n 0, 1) := by decide +kernel
theorem dX7_findsShapes_23 : decode cX7_findsShapes 23 = .ok (.getfield 31, 3) := by decide +kernel
theorem dX7_findsShapes_26 : decode cX7_findsShapes 26 = .ok (.iload_n 3, 1) := by decide +kernel
theorem dX7_findsShapes_27 : decode cX7_findsShapes 27 = .ok (.iaload, 1) := by decide +kernel
theorem dX7_findsShapes_28 : decode cX7_findsShapes 28 = .ok (.invokestatic 132, 3) := by decide +kernel
theorem dX7_findsShapes_31 : decode cX7_findsShapes 31 = .ok (.iconst 1, 1) := by decide +kernel
theorem dX7_findsShapes_32 : decode cX7_findsShapes 32 = .ok (.if_icmp .le 41, 3) := by decide +kernel
theorem dX7_findsShapes_35 : decode cX7_findsShapes 35 = .ok (.aload_n 0, 1) := by decide +kernel
theorem dX7_findsShapes_36 : decode cX7_findsShapes 36 = .ok (.aload_n 0, 1) := by decide +kernel
theorem dX7_findsShapes_37 : decode cX7_findsShapes 37 = .ok (.getfield 31, 3) := by decide +kernel
theorem dX7_findsShapes_40 : decode cX7_findsShapes 40 = .ok (.iload_n 3, 1) := by decide +kernel
theorem dX7_findsShapes_41 : decode cX7_findsShapes 41 = .ok (.iaload, 1) := by decide +kernel
theorem dX7_findsShapes_42 : decode cX7_findsShapes 42 = .ok (.invokevirtual 142, 3) := by decide +kernel
theorem dX7_findsShapes_45 : decode cX7_findsShapes 45 = .ok (.ifCond .eq 28, 3) := by decide +kernel
theorem dX7_findsShapes_48 : decode cX7_findsShapes 48 = .ok (.aload_n 0, 1) := by decide +kernel
theorem dX7_findsShapes_49 : decode cX7_findsShapes 49 = .ok (.getfield 34, 3) := by decide +kernel
theorem dX7_findsShapes_52 : decode cX7_findsShapes 52 = .ok (.aload_n 0, 1) := by decide +kernel
theorem dX7_findsShapes_53 : decode cX7_findsShapes 53 = .ok (.getfield 136, 3) := by decide +kernel
theorem dX7_findsShapes_56 : decode cX7_findsShapes 56 = .ok (.aload_n 0, 1) := by decide +kernel
theorem dX7_findsShapes_57 : decode cX7_findsShapes 57 = .ok (.getfield 31, 3) := by decide +kernel
theorem dX7_findsShapes_60 : decode cX7_findsShapes 60 = .ok (.iload_n 3, 1) := by decide +kernel
theorem dX7_findsShapes_61 : decode cX7_findsShapes 61 = .ok (.iaload, 1) := by decide +kernel
theorem dX7_findsShapes_62 : decode cX7_findsShapes 62 = .ok (.iastore, 1) := by decide +kernel
theorem dX7_findsShapes_63 : decode cX7_findsShapes 63 = .ok (.aload_n 0, 1) := by decide +kernel
theorem dX7_findsShapes_64 : decode cX7_findsShapes 64 = .ok (.dup, 1) := by decide +kernel
theorem dX7_findsShapes_65 : decode cX7_findsShapes 65 = .ok (.getfield 136, 3) := by decide +kernel
theorem dX7_findsShapes_68 : decode cX7_findsShapes 68 = .ok (.iconst 1, 1) := by decide +kernel
theorem dX7_findsShapes_69 : decode cX7_findsShapes 69 = .ok (.iadd, 1) := by decide +kernel
theorem dX7_findsShapes_70 : decode cX7_findsShapes 70 = .ok (.putfield 136, 3) := by decide +kernel
theorem dX7_findsShapes_73 : decode cX7_findsShapes 73 = .ok (.iinc 3 1, 3) := by decide +kernel
theorem dX7_findsShapes_76 : decode cX7_findsShapes 76 = .ok (.goto (-61), 3) := by decide +kernel
theorem dX7_findsShapes_79 : decode cX7_findsShapes 79 = .ok (.return_, 1) := by decide +kernel
theorem dX7_findsBest_0 : decode cX7_findsBest 0 = .ok (.aload_n 0, 1) := by decide +kernel
theorem dX7_findsBest_1 : decode cX7_findsBest 1 = .ok (.aload_n 1, 1) := by decide +kernel
theorem dX7_findsBest_2 : decode cX7_findsBest 2 = .ok (.iload_n 2, 1) := by decide +kernel
theorem dX7_findsBest_3 : decode cX7_findsBest 3 = .ok (.invokevirtual 145, 3) := by decide +kernel
theorem dX7_findsBest_6 : decode cX7_findsBest 6 = .ok (.aload_n 0, 1) := by decide +kernel
theorem dX7_findsBest_7 : decode cX7_findsBest 7 = .ok (.bipush (-4), 2) := by decide +kernel
theorem dX7_findsBest_9 : decode cX7_findsBest 9 = .ok (.putfield 148, 3) := by decide +kernel
theorem dX7_findsBest_12 : decode cX7_findsBest 12 = .ok (.aload_n 0, 1) := by decide +kernel
theorem dX7_findsBest_13 : decode cX7_findsBest 13 = .ok (.iconst 0, 1) := by decide +kernel
theorem dX7_findsBest_14 : decode cX7_findsBest 14 = .ok (.putfield 151, 3) := by decide +kernel
theorem dX7_findsBest_17 : decode cX7_findsBest 17 = .ok (.aload_n 0, 1) := by decide +kernel
theorem dX7_findsBest_18 : decode cX7_findsBest 18 = .ok (.iconst 0, 1) := by decide +kernel
theorem dX7_findsBest_19 : decode cX7_findsBest 19 = .ok (.putfield 154, 3) := by decide +kernel
theorem dX7_findsBest_22 : decode cX7_findsBest 22 = .ok (.iconst 0, 1) := by decide +kernel
theorem dX7_findsBest_23 : decode cX7_findsBest 23 = .ok (.istore_n 3, 1) := by decide +kernel
theorem dX7_findsBest_24 : decode cX7_findsBest 24 = .ok (.iload_n 3, 1) := by decide +kernel
theorem dX7_findsBest_25 : decode cX7_findsBest 25 = .ok (.aload_n 0, 1) := by decide +kernel
theorem dX7_findsBest_26 : decode cX7_findsBest 26 = .ok (.getfield 136, 3) := by decide +kernel
theorem dX7_findsBest_29 : decode cX7_findsBest 29 = .ok (.if_icmp .ge 103, 3) := by decide +kernel
theorem dX7_findsBest_32 : decode cX7_findsBest 32 = .ok (.aload_n 0, 1) := by decide +kernel
theorem dX7_findsBest_33 : decode cX7_findsBest 33 = .ok (.aload_n 1, 1) := by decide +kernel
theorem dX7_findsBest_34 : decode cX7_findsBest 34 = .ok (.aload_n 0, 1) := by decide +kernel
theorem dX7_findsBest_35 : decode cX7_findsBest 35 = .ok (.getfield 34, 3) := by decide +kernel
theorem dX7_findsBest_38 : decode cX7_findsBest 38 = .ok (.iload_n 3, 1) := by decide +kernel
theorem dX7_findsBest_39 : decode cX7_findsBest 39 = .ok (.iaload, 1) := by decide +kernel
theorem dX7_findsBest_40 : decode cX7_findsBest 40 = .ok (.invokevirtual 157, 3) := by decide +kernel
theorem dX7_findsBest_43 : decode cX7_findsBest 43 = .ok (.aload_n 0, 1) := by decide +kernel
theorem dX7_findsBest_44 : decode cX7_findsBest 44 = .ok (.aload_n 0, 1) := by decide +kernel
theorem dX7_findsBest_45 : decode cX7_findsBest 45 = .ok (.getfield 34, 3) := by decide +kernel
theorem dX7_findsBest_48 : decode cX7_findsBest 48 = .ok (.iload_n 3, 1) := by decide +kernel
theorem dX7_findsBest_49 : decode cX7_findsBest 49 = .ok (.iaload, 1) := by decide +kernel
theorem dX7_findsBest_50 : decode cX7_findsBest 50 = .ok (.invokevirtual 160, 3) := by decide +kernel
theorem dX7_findsBest_53 : decode cX7_findsBest 53 = .ok (.istore 4, 2) := by decide +kernel
theorem dX7_findsBest_55 : decode cX7_findsBest 55 = .ok (.aload_n 0, 1) := by decide +kernel
theorem dX7_findsBest_56 : decode cX7_findsBest 56 = .ok (.getfield 148, 3) := by decide +kernel
theorem dX7_findsBest_59 : decode cX7_findsBest 59 = .ok (.bipush (-4), 2) := by decide +kernel
theorem dX7_findsBest_61 : decode cX7_findsBest 61 = .ok (.if_icmp .eq 38, 3) := by decide +kernel
theorem dX7_findsBest_64 : decode cX7_findsBest 64 = .ok (.iload 4, 2) := by decide +kernel
theorem dX7_findsBest_66 : decode cX7_findsBest 66 = .ok (.aload_n 0, 1) := by decide +kernel
theorem dX7_findsBest_67 : decode cX7_findsBest 67 = .ok (.getfield 151, 3) := by decide +kernel
theorem dX7_findsBest_70 : decode cX7_findsBest 70 = .ok (.if_icmp .gt 29, 3) := by decide +kernel
theorem dX7_findsBest_73 : decode cX7_findsBest 73 = .ok (.iload 4, 2) := by decide +kernel
theorem dX7_findsBest_75 : decode cX7_findsBest 75 = .ok (.aload_n 0, 1) := by decide +kernel
theorem dX7_findsBest_76 : decode cX7_findsBest 76 = .ok (.getfield 151, 3) := by decide +kernel
theorem dX7_findsBest_79 : decode cX7_findsBest 79 = .ok (.if_icmp .ne 47, 3) := by decide +kernel
theorem dX7_findsBest_82 : decode cX7_findsBest 82 = .ok (.aload_n 0, 1) := by decide +kernel
theorem dX7_findsBest_83 : decode cX7_findsBest 83 = .ok (.getfield 129, 3) := by decide +kernel
theorem dX7_findsBest_86 : decode cX7_findsBest 86 = .ok (.invokestatic 132, 3) := by decide +kernel
theorem dX7_findsBest_89 : decode cX7_findsBest 89 = .ok (.aload_n 0, 1) := by decide +kernel
theorem dX7_findsBest_90 : decode cX7_findsBest 90 = .ok (.getfield 154, 3) := by decide +kernel
theorem dX7_findsBest_93 : decode cX7_findsBest 93 = .ok (.invokestatic 132, 3) := by decide +kernel
theorem dX7_findsBest_96 : decode cX7_findsBest 96 = .ok (.if_icmp .le 30, 3) := by decide +kernel
theorem dX7_findsBest_99 : decode cX7_findsBest 99 = .ok (.aload_n 0, 1) := by decide +kernel
theorem dX7_findsBest_100 : decode cX7_findsBest 100 = .ok (.iload_n 3, 1) := by decide +kernel
theorem dX7_findsBest_101 : decode cX7_findsBest 101 = .ok (.putfield 148, 3) := by decide +kernel
theorem dX7_findsBest_104 : decode cX7_findsBest 104 = .ok (.aload_n 0, 1) := by decide +kernel
theorem dX7_findsBest_105 : decode cX7_findsBest 105 = .ok (.iload 4, 2) := by decide +kernel
theorem dX7_findsBest_107 : decode cX7_findsBest 107 = .ok (.putfield 151, 3) := by decide +kernel
theorem dX7_findsBest_110 : decode cX7_findsBest 110 = .ok (.aload_n 0, 1) := by decide +kernel
theorem dX7_findsBest_111 : decode cX7_findsBest 111 = .ok (.aload_n 0, 1) := by decide +kernel
theorem dX7_findsBest_112 : decode cX7_findsBest 112 = .ok (.getfield 129, 3) := by decide +kernel
theorem dX7_findsBest_115 : decode cX7_findsBest 115 = .ok (.putfield 154, 3) := by decide +kernel
theorem dX7_findsBest_118 : decode cX7_findsBest 118 = .ok (.aload_n 0, 1) := by decide +kernel
theorem dX7_findsBest_119 : decode cX7_findsBest 119 = .ok (.aload_n 0, 1) := by decide +kernel
theorem dX7_findsBest_120 : decode cX7_findsBest 120 = .ok (.getfield 126, 3) := by decide +kernel
theorem dX7_findsBest_123 : decode cX7_findsBest 123 = .ok (.putfield 163, 3) := by decide +kernel
theorem dX7_findsBest_126 : decode cX7_findsBest 126 = .ok (.iinc 3 1, 3) := by decide +kernel
theorem dX7_findsBest_129 : decode cX7_findsBest 129 = .ok (.goto (-105), 3) := by decide +kernel
theorem dX7_findsBest_132 : decode cX7_findsBest 132 = .ok (.return_, 1) := by decide +kernel
theorem dX7_allOf_0 : decode cX7_allOf 0 = .ok (.iconst 1, 1) := by decide +kernel
theorem dX7_allOf_1 : decode cX7_allOf 1 = .ok (.aload_n 0, 1) := by decide +kernel
theorem dX7_allOf_2 : decode cX7_allOf 2 = .ok (.iconst 0, 1) := by decide +kernel
theorem dX7_allOf_3 : decode cX7_allOf 3 = .ok (.iaload, 1) := by decide +kernel
theorem dX7_allOf_4 : decode cX7_allOf 4 = .ok (.ishl, 1) := by decide +kernel
theorem dX7_allOf_5 : decode cX7_allOf 5 = .ok (.iconst 1, 1) := by decide +kernel
theorem dX7_allOf_6 : decode cX7_allOf 6 = .ok (.isub, 1) := by decide +kernel
theorem dX7_allOf_7 : decode cX7_allOf 7 = .ok (.ireturn, 1) := by decide +kernel
theorem dX7_largest_0 : decode cX7_largest 0 = .ok (.aload_n 0, 1) := by decide +kernel
theorem dX7_largest_1 : decode cX7_largest 1 = .ok (.iload_n 1, 1) := by decide +kernel
theorem dX7_largest_2 : decode cX7_largest 2 = .ok (.iload_n 2, 1) := by decide +kernel
theorem dX7_largest_3 : decode cX7_largest 3 = .ok (.invokevirtual 107, 3) := by decide +kernel
theorem dX7_largest_6 : decode cX7_largest 6 = .ok (.ifCond .ne 5, 3) := by decide +kernel
theorem dX7_largest_9 : decode cX7_largest 9 = .ok (.iconst (-1), 1) := by decide +kernel
theorem dX7_largest_10 : decode cX7_largest 10 = .ok (.ireturn, 1) := by decide +kernel
theorem dX7_largest_11 : decode cX7_largest 11 = .ok (.aload_n 0, 1) := by decide +kernel
theorem dX7_largest_12 : decode cX7_largest 12 = .ok (.aload_n 0, 1) := by decide +kernel
theorem dX7_largest_13 : decode cX7_largest 13 = .ok (.getfield 7, 3) := by decide +kernel
theorem dX7_largest_16 : decode cX7_largest 16 = .ok (.aload_n 0, 1) := by decide +kernel
theorem dX7_largest_17 : decode cX7_largest 17 = .ok (.getfield 7, 3) := by decide +kernel
theorem dX7_largest_20 : decode cX7_largest 20 = .ok (.invokestatic 166, 3) := by decide +kernel
theorem dX7_largest_23 : decode cX7_largest 23 = .ok (.invokevirtual 139, 3) := by decide +kernel
theorem dX7_largest_26 : decode cX7_largest 26 = .ok (.aload_n 0, 1) := by decide +kernel
theorem dX7_largest_27 : decode cX7_largest 27 = .ok (.getfield 31, 3) := by decide +kernel
theorem dX7_largest_30 : decode cX7_largest 30 = .ok (.bipush 23, 2) := by decide +kernel
theorem dX7_largest_32 : decode cX7_largest 32 = .ok (.iload_n 1, 1) := by decide +kernel
theorem dX7_largest_33 : decode cX7_largest 33 = .ok (.bipush 19, 2) := by decide +kernel
theorem dX7_largest_35 : decode cX7_largest 35 = .ok (.iadd, 1) := by decide +kernel
theorem dX7_largest_36 : decode cX7_largest 36 = .ok (.imul, 1) := by decide +kernel
theorem dX7_largest_37 : decode cX7_largest 37 = .ok (.iload_n 2, 1) := by decide +kernel
theorem dX7_largest_38 : decode cX7_largest 38 = .ok (.iadd, 1) := by decide +kernel
theorem dX7_largest_39 : decode cX7_largest 39 = .ok (.bipush 11, 2) := by decide +kernel
theorem dX7_largest_41 : decode cX7_largest 41 = .ok (.iadd, 1) := by decide +kernel
theorem dX7_largest_42 : decode cX7_largest 42 = .ok (.iaload, 1) := by decide +kernel
theorem dX7_largest_43 : decode cX7_largest 43 = .ok (.ireturn, 1) := by decide +kernel
theorem dX7_meets_0 : decode cX7_meets 0 = .ok (.aload_n 0, 1) := by decide +kernel
theorem dX7_meets_1 : decode cX7_meets 1 = .ok (.iload_n 1, 1) := by decide +kernel
theorem dX7_meets_2 : decode cX7_meets 2 = .ok (.invokevirtual 92, 3) := by decide +kernel
theorem dX7_meets_5 : decode cX7_meets 5 = .ok (.ifCond .eq 12, 3) := by decide +kernel
theorem dX7_meets_8 : decode cX7_meets 8 = .ok (.aload_n 0, 1) := by decide +kernel
theorem dX7_meets_9 : decode cX7_meets 9 = .ok (.iload_n 2, 1) := by decide +kernel
theorem dX7_meets_10 : decode cX7_meets 10 = .ok (.iload_n 3, 1) := by decide +kernel
theorem dX7_meets_11 : decode cX7_meets 11 = .ok (.invokevirtual 107, 3) := by decide +kernel
theorem dX7_meets_14 : decode cX7_meets 14 = .ok (.ifCond .ne 5, 3) := by decide +kernel
theorem dX7_meets_17 : decode cX7_meets 17 = .ok (.iconst (-1), 1) := by decide +kernel
theorem dX7_meets_18 : decode cX7_meets 18 = .ok (.ireturn, 1) := by decide +kernel
theorem dX7_meets_19 : decode cX7_meets 19 = .ok (.aload_n 0, 1) := by decide +kernel
theorem dX7_meets_20 : decode cX7_meets 20 = .ok (.aload_n 0, 1) := by decide +kernel
theorem dX7_meets_21 : decode cX7_meets 21 = .ok (.getfield 7, 3) := by decide +kernel
theorem dX7_meets_24 : decode cX7_meets 24 = .ok (.aload_n 0, 1) := by decide +kernel
theorem dX7_meets_25 : decode cX7_meets 25 = .ok (.getfield 7, 3) := by decide +kernel
theorem dX7_meets_28 : decode cX7_meets 28 = .ok (.invokestatic 166, 3) := by decide +kernel
theorem dX7_meets_31 : decode cX7_meets 31 = .ok (.invokevirtual 139, 3) := by decide +kernel
theorem dX7_meets_34 : decode cX7_meets 34 = .ok (.aload_n 0, 1) := by decide +kernel
theorem dX7_meets_35 : decode cX7_meets 35 = .ok (.aload_n 0, 1) := by decide +kernel
theorem dX7_meets_36 : decode cX7_meets 36 = .ok (.getfield 7, 3) := by decide +kernel
theorem dX7_meets_39 : decode cX7_meets 39 = .ok (.iload_n 1, 1) := by decide +kernel
theorem dX7_meets_40 : decode cX7_meets 40 = .ok (.iload_n 2, 1) := by decide +kernel
theorem dX7_meets_41 : decode cX7_meets 41 = .ok (.iload_n 3, 1) := by decide +kernel
theorem dX7_meets_42 : decode cX7_meets 42 = .ok (.invokevirtual 122, 3) := by decide +kernel
theorem dX7_meets_45 : decode cX7_meets 45 = .ok (.ireturn, 1) := by decide +kernel
theorem dX7_shape_0 : decode cX7_shape 0 = .ok (.aload_n 0, 1) := by decide +kernel
theorem dX7_shape_1 : decode cX7_shape 1 = .ok (.aload_n 0, 1) := by decide +kernel
theorem dX7_shape_2 : decode cX7_shape 2 = .ok (.getfield 7, 3) := by decide +kernel
theorem dX7_shape_5 : decode cX7_shape 5 = .ok (.aload_n 0, 1) := by decide +kernel
theorem dX7_shape_6 : decode cX7_shape 6 = .ok (.getfield 7, 3) := by decide +kernel
theorem dX7_shape_9 : decode cX7_shape 9 = .ok (.invokestatic 166, 3) := by decide +kernel
theorem dX7_shape_12 : decode cX7_shape 12 = .ok (.invokevirtual 145, 3) := by decide +kernel
theorem dX7_shape_15 : decode cX7_shape 15 = .ok (.iload_n 1, 1) := by decide +kernel
theorem dX7_shape_16 : decode cX7_shape 16 = .ok (.iconst 0, 1) := by decide +kernel
theorem dX7_shape_17 : decode cX7_shape 17 = .ok (.aload_n 0, 1) := by decide +kernel
theorem dX7_shape_18 : decode cX7_shape 18 = .ok (.getfield 136, 3) := by decide +kernel
theorem dX7_shape_21 : decode cX7_shape 21 = .ok (.iconst 1, 1) := by decide +kernel
theorem dX7_shape_22 : decode cX7_shape 22 = .ok (.isub, 1) := by decide +kernel
theorem dX7_shape_23 : decode cX7_shape 23 = .ok (.invokestatic 68, 3) := by decide +kernel
theorem dX7_shape_26 : decode cX7_shape 26 = .ok (.ifCond .eq 12, 3) := by decide +kernel
theorem dX7_shape_29 : decode cX7_shape 29 = .ok (.iload_n 2, 1) := by decide +kernel
theorem dX7_shape_30 : decode cX7_shape 30 = .ok (.iconst 0, 1) := by decide +kernel
theorem dX7_shape_31 : decode cX7_shape 31 = .ok (.iconst 3, 1) := by decide +kernel
theorem dX7_shape_32 : decode cX7_shape 32 = .ok (.invokestatic 68, 3) := by decide +kernel
theorem dX7_shape_35 : decode cX7_shape 35 = .ok (.ifCond .ne 5, 3) := by decide +kernel
theorem dX7_shape_38 : decode cX7_shape 38 = .ok (.iconst (-1), 1) := by decide +kernel
theorem dX7_shape_39 : decode cX7_shape 39 = .ok (.ireturn, 1) := by decide +kernel
theorem dX7_shape_40 : decode cX7_shape 40 = .ok (.aload_n 0, 1) := by decide +kernel
theorem dX7_shape_41 : decode cX7_shape 41 = .ok (.getfield 34, 3) := by decide +kernel
theorem dX7_shape_44 : decode cX7_shape 44 = .ok (.iload_n 1, 1) := by decide +kernel
theorem dX7_shape_45 : decode cX7_shape 45 = .ok (.iaload, 1) := by decide +kernel
theorem dX7_shape_46 : decode cX7_shape 46 = .ok (.istore_n 3, 1) := by decide +kernel
theorem dX7_shape_47 : decode cX7_shape 47 = .ok (.aload_n 0, 1) := by decide +kernel
theorem dX7_shape_48 : decode cX7_shape 48 = .ok (.aload_n 0, 1) := by decide +kernel
theorem dX7_shape_49 : decode cX7_shape 49 = .ok (.getfield 7, 3) := by decide +kernel
theorem dX7_shape_52 : decode cX7_shape 52 = .ok (.iload_n 3, 1) := by decide +kernel
theorem dX7_shape_53 : decode cX7_shape 53 = .ok (.invokevirtual 157, 3) := by decide +kernel
theorem dX7_shape_56 : decode cX7_shape 56 = .ok (.iload_n 2, 1) := by decide +kernel
theorem dX7_shape_57 : decode cX7_shape 57 = .ok (.ifCond .ne 7, 3) := by decide +kernel
theorem dX7_shape_60 : decode cX7_shape 60 = .ok (.iload_n 3, 1) := by decide +kernel
theorem dX7_shape_61 : decode cX7_shape 61 = .ok (.goto 35, 3) := by decide +kernel
theorem dX7_shape_64 : decode cX7_shape 64 = .ok (.iload_n 2, 1) := by decide +kernel
theorem dX7_shape_65 : decode cX7_shape 65 = .ok (.iconst 1, 1) := by decide +kernel
theorem dX7_shape_66 : decode cX7_shape 66 = .ok (.if_icmp .ne 10, 3) := by decide +kernel
theorem dX7_shape_69 : decode cX7_shape 69 = .ok (.aload_n 0, 1) := by decide +kernel
theorem dX7_shape_70 : decode cX7_shape 70 = .ok (.getfield 126, 3) := by decide +kernel
theorem dX7_shape_73 : decode cX7_shape 73 = .ok (.goto 23, 3) := by decide +kernel
theorem dX7_shape_76 : decode cX7_shape 76 = .ok (.iload_n 2, 1) := by decide +kernel
theorem dX7_shape_77 : decode cX7_shape 77 = .ok (.iconst 2, 1) := by decide +kernel
theorem dX7_shape_78 : decode cX7_shape 78 = .ok (.if_icmp .ne 10, 3) := by decide +kernel
theorem dX7_shape_81 : decode cX7_shape 81 = .ok (.aload_n 0, 1) := by decide +kernel
theorem dX7_shape_82 : decode cX7_shape 82 = .ok (.getfield 129, 3) := by decide +kernel
theorem dX7_shape_85 : decode cX7_shape 85 = .ok (.goto 11, 3) := by decide +kernel
theorem dX7_shape_88 : decode cX7_shape 88 = .ok (.aload_n 0, 1) := by decide +kernel
theorem dX7_shape_89 : decode cX7_shape 89 = .ok (.iload_n 3, 1) := by decide +kernel
theorem dX7_shape_90 : decode cX7_shape 90 = .ok (.invokevirtual 160, 3) := by decide +kernel
theorem dX7_shape_93 : decode cX7_shape 93 = .ok (.bipush 100, 2) := by decide +kernel
theorem dX7_shape_95 : decode cX7_shape 95 = .ok (.iadd, 1) := by decide +kernel
theorem dX7_shape_96 : decode cX7_shape 96 = .ok (.ireturn, 1) := by decide +kernel
theorem dX7_place_0 : decode cX7_place 0 = .ok (.iload_n 1, 1) := by decide +kernel
theorem dX7_place_1 : decode cX7_place 1 = .ok (.iconst 1, 1) := by decide +kernel
theorem dX7_place_2 : decode cX7_place 2 = .ok (.aload_n 0, 1) := by decide +kernel
theorem dX7_place_3 : decode cX7_place 3 = .ok (.getfield 7, 3) := by decide +kernel
theorem dX7_place_6 : decode cX7_place 6 = .ok (.invokestatic 166, 3) := by decide +kernel
theorem dX7_place_9 : decode cX7_place 9 = .ok (.invokestatic 68, 3) := by decide +kernel
theorem dX7_place_12 : decode cX7_place 12 = .ok (.ifCond .eq 8, 3) := by decide +kernel
theorem dX7_place_15 : decode cX7_place 15 = .ok (.iload_n 2, 1) := by decide +kernel
theorem dX7_place_16 : decode cX7_place 16 = .ok (.iconst (-1), 1) := by decide +kernel
theorem dX7_place_17 : decode cX7_place 17 = .ok (.if_icmp .ge 5, 3) := by decide +kernel
theorem dX7_place_20 : decode cX7_place 20 = .ok (.iconst (-1), 1) := by decide +kernel
theorem dX7_place_21 : decode cX7_place 21 = .ok (.ireturn, 1) := by decide +kernel
theorem dX7_place_22 : decode cX7_place 22 = .ok (.aload_n 0, 1) := by decide +kernel
theorem dX7_place_23 : decode cX7_place 23 = .ok (.aload_n 0, 1) := by decide +kernel
theorem dX7_place_24 : decode cX7_place 24 = .ok (.getfield 7, 3) := by decide +kernel
theorem dX7_place_27 : decode cX7_place 27 = .ok (.aload_n 0, 1) := by decide +kernel
theorem dX7_place_28 : decode cX7_place 28 = .ok (.getfield 7, 3) := by decide +kernel
theorem dX7_place_31 : decode cX7_place 31 = .ok (.invokestatic 166, 3) := by decide +kernel
theorem dX7_place_34 : decode cX7_place 34 = .ok (.invokevirtual 139, 3) := by decide +kernel
theorem dX7_place_37 : decode cX7_place 37 = .ok (.iconst 0, 1) := by decide +kernel
theorem dX7_place_38 : decode cX7_place 38 = .ok (.istore_n 3, 1) := by decide +kernel
theorem dX7_place_39 : decode cX7_place 39 = .ok (.iconst 0, 1) := by decide +kernel
theorem dX7_place_40 : decode cX7_place 40 = .ok (.istore 4, 2) := by decide +kernel
theorem dX7_place_42 : decode cX7_place 42 = .ok (.iload 4, 2) := by decide +kernel
theorem dX7_place_44 : decode cX7_place 44 = .ok (.sipush 897, 3) := by decide +kernel
theorem dX7_place_47 : decode cX7_place 47 = .ok (.if_icmp .ge 51, 3) := by decide +kernel
theorem dX7_place_50 : decode cX7_place 50 = .ok (.aload_n 0, 1) := by decide +kernel
theorem dX7_place_51 : decode cX7_place 51 = .ok (.getfield 31, 3) := by decide +kernel
theorem dX7_place_54 : decode cX7_place 54 = .ok (.iload 4, 2) := by decide +kernel
theorem dX7_place_56 : decode cX7_place 56 = .ok (.iaload, 1) := by decide +kernel
theorem dX7_place_57 : decode cX7_place 57 = .ok (.iload_n 1, 1) := by decide +kernel
theorem dX7_place_58 : decode cX7_place 58 = .ok (.iand, 1) := by decide +kernel
theorem dX7_place_59 : decode cX7_place 59 = .ok (.iload_n 1, 1) := by decide +kernel
theorem dX7_place_60 : decode cX7_place 60 = .ok (.if_icmp .ne 32, 3) := by decide +kernel
theorem dX7_place_63 : decode cX7_place 63 = .ok (.iload_n 3, 1) := by decide +kernel
theorem dX7_place_64 : decode cX7_place 64 = .ok (.iload_n 2, 1) := by decide +kernel
theorem dX7_place_65 : decode cX7_place 65 = .ok (.if_icmp .ne 24, 3) := by decide +kernel
theorem dX7_place_68 : decode cX7_place 68 = .ok (.bipush 100, 2) := by decide +kernel
theorem dX7_place_70 : decode cX7_place 70 = .ok (.iload 4, 2) := by decide +kernel
theorem dX7_place_72 : decode cX7_place 72 = .ok (.bipush 23, 2) := by decide +kernel
theorem dX7_place_74 : decode cX7_place 74 = .ok (.idiv, 1) := by decide +kernel
theorem dX7_place_75 : decode cX7_place 75 = .ok (.bipush 31, 2) := by decide +kernel
theorem dX7_place_77 : decode cX7_place 77 = .ok (.iadd, 1) := by decide +kernel
theorem dX7_place_78 : decode cX7_place 78 = .ok (.imul, 1) := by decide +kernel
theorem dX7_place_79 : decode cX7_place 79 = .ok (.iload 4, 2) := by decide +kernel
theorem dX7_place_81 : decode cX7_place 81 = .ok (.bipush 23, 2) := by decide +kernel
theorem dX7_place_83 : decode cX7_place 83 = .ok (.irem, 1) := by decide +kernel
theorem dX7_place_84 : decode cX7_place 84 = .ok (.iadd, 1) := by decide +kernel
theorem dX7_place_85 : decode cX7_place 85 = .ok (.bipush 39, 2) := by decide +kernel
theorem dX7_place_87 : decode cX7_place 87 = .ok (.iadd, 1) := by decide +kernel
theorem dX7_place_88 : decode cX7_place 88 = .ok (.ireturn, 1) := by decide +kernel
theorem dX7_place_89 : decode cX7_place 89 = .ok (.iinc 3 1, 3) := by decide +kernel
theorem dX7_place_92 : decode cX7_place 92 = .ok (.iinc 4 1, 3) := by decide +kernel
theorem dX7_place_95 : decode cX7_place 95 = .ok (.goto (-53), 3) := by decide +kernel
theorem dX7_place_98 : decode cX7_place 98 = .ok (.iload_n 2, 1) := by decide +kernel
theorem dX7_place_99 : decode cX7_place 99 = .ok (.iconst (-1), 1) := by decide +kernel
theorem dX7_place_100 : decode cX7_place 100 = .ok (.if_icmp .ne 7, 3) := by decide +kernel
theorem dX7_place_103 : decode cX7_place 103 = .ok (.iload_n 3, 1) := by decide +kernel
theorem dX7_place_104 : decode cX7_place 104 = .ok (.goto 5, 3) := by decide +kernel
theorem dX7_place_107 : decode cX7_place 107 = .ok (.bipush (-4), 2) := by decide +kernel
theorem dX7_place_109 : decode cX7_place 109 = .ok (.ireturn, 1) := by decide +kernel
theorem dX7_best_0 : decode cX7_best 0 = .ok (.iload_n 1, 1) := by decide +kernel
theorem dX7_best_1 : decode cX7_best 1 = .ok (.iconst 0, 1) := by decide +kernel
theorem dX7_best_2 : decode cX7_best 2 = .ok (.iconst 1, 1) := by decide +kernel
theorem dX7_best_3 : decode cX7_best 3 = .ok (.invokestatic 68, 3) := by decide +kernel
theorem dX7_best_6 : decode cX7_best 6 = .ok (.ifCond .ne 5, 3) := by decide +kernel
theorem dX7_best_9 : decode cX7_best 9 = .ok (.iconst (-1), 1) := by decide +kernel
theorem dX7_best_10 : decode cX7_best 10 = .ok (.ireturn, 1) := by decide +kernel
theorem dX7_best_11 : decode cX7_best 11 = .ok (.aload_n 0, 1) := by decide +kernel
theorem dX7_best_12 : decode cX7_best 12 = .ok (.aload_n 0, 1) := by decide +kernel
theorem dX7_best_13 : decode cX7_best 13 = .ok (.getfield 7, 3) := by decide +kernel
theorem dX7_best_16 : decode cX7_best 16 = .ok (.aload_n 0, 1) := by decide +kernel
theorem dX7_best_17 : decode cX7_best 17 = .ok (.getfield 7, 3) := by decide +kernel
theorem dX7_best_20 : decode cX7_best 20 = .ok (.invokestatic 166, 3) := by decide +kernel
theorem dX7_best_23 : decode cX7_best 23 = .ok (.invokevirtual 170, 3) := by decide +kernel
theorem dX7_best_26 : decode cX7_best 26 = .ok (.aload_n 0, 1) := by decide +kernel
theorem dX7_best_27 : decode cX7_best 27 = .ok (.getfield 148, 3) := by decide +kernel
theorem dX7_best_30 : decode cX7_best 30 = .ok (.bipush (-4), 2) := by decide +kernel
theorem dX7_best_32 : decode cX7_best 32 = .ok (.if_icmp .ne 8, 3) := by decide +kernel
theorem dX7_best_35 : decode cX7_best 35 = .ok (.bipush (-4), 2) := by decide +kernel
theorem dX7_best_37 : decode cX7_best 37 = .ok (.goto 21, 3) := by decide +kernel
theorem dX7_best_40 : decode cX7_best 40 = .ok (.iload_n 1, 1) := by decide +kernel
theorem dX7_best_41 : decode cX7_best 41 = .ok (.ifCond .ne 10, 3) := by decide +kernel
theorem dX7_best_44 : decode cX7_best 44 = .ok (.aload_n 0, 1) := by decide +kernel
theorem dX7_best_45 : decode cX7_best 45 = .ok (.getfield 148, 3) := by decide +kernel
theorem dX7_best_48 : decode cX7_best 48 = .ok (.goto 10, 3) := by decide +kernel
theorem dX7_best_51 : decode cX7_best 51 = .ok (.aload_n 0, 1) := by decide +kernel
theorem dX7_best_52 : decode cX7_best 52 = .ok (.getfield 151, 3) := by decide +kernel
theorem dX7_best_55 : decode cX7_best 55 = .ok (.bipush 100, 2) := by decide +kernel
theorem dX7_best_57 : decode cX7_best 57 = .ok (.iadd, 1) := by decide +kernel
theorem dX7_best_58 : decode cX7_best 58 = .ok (.ireturn, 1) := by decide +kernel
theorem dX7_isParted_0 : decode cX7_isParted 0 = .ok (.aload_n 0, 1) := by decide +kernel
theorem dX7_isParted_1 : decode cX7_isParted 1 = .ok (.iconst 0, 1) := by decide +kernel
theorem dX7_isParted_2 : decode cX7_isParted 2 = .ok (.putfield 173, 3) := by decide +kernel
theorem dX7_isParted_5 : decode cX7_isParted 5 = .ok (.aload_n 0, 1) := by decide +kernel
theorem dX7_isParted_6 : decode cX7_isParted 6 = .ok (.aload_n 1, 1) := by decide +kernel
theorem dX7_isParted_7 : decode cX7_isParted 7 = .ok (.invokestatic 166, 3) := by decide +kernel
theorem dX7_isParted_10 : decode cX7_isParted 10 = .ok (.putfield 176, 3) := by decide +kernel
theorem dX7_isParted_13 : decode cX7_isParted 13 = .ok (.aload_n 0, 1) := by decide +kernel
theorem dX7_isParted_14 : decode cX7_isParted 14 = .ok (.iconst 0, 1) := by decide +kernel
theorem dX7_isParted_15 : decode cX7_isParted 15 = .ok (.putfield 179, 3) := by decide +kernel
theorem dX7_isParted_18 : decode cX7_isParted 18 = .ok (.aload_n 0, 1) := by decide +kernel
theorem dX7_isParted_19 : decode cX7_isParted 19 = .ok (.aload_n 1, 1) := by decide +kernel
theorem dX7_isParted_20 : decode cX7_isParted 20 = .ok (.aload_n 0, 1) := by decide +kernel
theorem dX7_isParted_21 : decode cX7_isParted 21 = .ok (.getfield 176, 3) := by decide +kernel
theorem dX7_isParted_24 : decode cX7_isParted 24 = .ok (.invokevirtual 170, 3) := by decide +kernel
theorem dX7_isParted_27 : decode cX7_isParted 27 = .ok (.aload_n 0, 1) := by decide +kernel
theorem dX7_isParted_28 : decode cX7_isParted 28 = .ok (.getfield 148, 3) := by decide +kernel
theorem dX7_isParted_31 : decode cX7_isParted 31 = .ok (.bipush (-4), 2) := by decide +kernel
theorem dX7_isParted_33 : decode cX7_isParted 33 = .ok (.if_icmp .eq 138, 3) := by decide +kernel
theorem dX7_isParted_36 : decode cX7_isParted 36 = .ok (.aload_n 0, 1) := by decide +kernel
theorem dX7_isParted_37 : decode cX7_isParted 37 = .ok (.getfield 151, 3) := by decide +kernel
theorem dX7_isParted_40 : decode cX7_isParted 40 = .ok (.ifCond .le 131, 3) := by decide +kernel
theorem dX7_isParted_43 : decode cX7_isParted 43 = .ok (.aload_n 0, 1) := by decide +kernel
theorem dX7_isParted_44 : decode cX7_isParted 44 = .ok (.getfield 37, 3) := by decide +kernel
theorem dX7_isParted_47 : decode cX7_isParted 47 = .ok (.iconst 3, 1) := by decide +kernel
theorem dX7_isParted_48 : decode cX7_isParted 48 = .ok (.aload_n 0, 1) := by decide +kernel
theorem dX7_isParted_49 : decode cX7_isParted 49 = .ok (.getfield 173, 3) := by decide +kernel
theorem dX7_isParted_52 : decode cX7_isParted 52 = .ok (.imul, 1) := by decide +kernel
theorem dX7_isParted_53 : decode cX7_isParted 53 = .ok (.aload_n 0, 1) := by decide +kernel
theorem dX7_isParted_54 : decode cX7_isParted 54 = .ok (.getfield 34, 3) := by decide +kernel
theorem dX7_isParted_57 : decode cX7_isParted 57 = .ok (.aload_n 0, 1) := by decide +kernel
theorem dX7_isParted_58 : decode cX7_isParted 58 = .ok (.getfield 148, 3) := by decide +kernel
theorem dX7_isParted_61 : decode cX7_isParted 61 = .ok (.iaload, 1) := by decide +kernel
theorem dX7_isParted_62 : decode cX7_isParted 62 = .ok (.iastore, 1) := by decide +kernel
theorem dX7_isParted_63 : decode cX7_isParted 63 = .ok (.aload_n 0, 1) := by decide +kernel
theorem dX7_isParted_64 : decode cX7_isParted 64 = .ok (.getfield 37, 3) := by decide +kernel
theorem dX7_isParted_67 : decode cX7_isParted 67 = .ok (.iconst 3, 1) := by decide +kernel
theorem dX7_isParted_68 : decode cX7_isParted 68 = .ok (.aload_n 0, 1) := by decide +kernel
theorem dX7_isParted_69 : decode cX7_isParted 69 = .ok (.getfield 173, 3) := by decide +kernel
theorem dX7_isParted_72 : decode cX7_isParted 72 = .ok (.imul, 1) := by decide +kernel
theorem dX7_isParted_73 : decode cX7_isParted 73 = .ok (.iconst 1, 1) := by decide +kernel
theorem dX7_isParted_74 : decode cX7_isParted 74 = .ok (.iadd, 1) := by decide +kernel
theorem dX7_isParted_75 : decode cX7_isParted 75 = .ok (.aload_n 0, 1) := by decide +kernel
theorem dX7_isParted_76 : decode cX7_isParted 76 = .ok (.getfield 163, 3) := by decide +kernel
theorem dX7_isParted_79 : decode cX7_isParted 79 = .ok (.iastore, 1) := by decide +kernel
theorem dX7_isParted_80 : decode cX7_isParted 80 = .ok (.aload_n 0, 1) := by decide +kernel
theorem dX7_isParted_81 : decode cX7_isParted 81 = .ok (.getfield 37, 3) := by decide +kernel
theorem dX7_isParted_84 : decode cX7_isParted 84 = .ok (.iconst 3, 1) := by decide +kernel
theorem dX7_isParted_85 : decode cX7_isParted 85 = .ok (.aload_n 0, 1) := by decide +kernel
theorem dX7_isParted_86 : decode cX7_isParted 86 = .ok (.getfield 173, 3) := by decide +kernel
theorem dX7_isParted_89 : decode cX7_isParted 89 = .ok (.imul, 1) := by decide +kernel
theorem dX7_isParted_90 : decode cX7_isParted 90 = .ok (.iconst 2, 1) := by decide +kernel
theorem dX7_isParted_91 : decode cX7_isParted 91 = .ok (.iadd, 1) := by decide +kernel
theorem dX7_isParted_92 : decode cX7_isParted 92 = .ok (.aload_n 0, 1) := by decide +kernel
theorem dX7_isParted_93 : decode cX7_isParted 93 = .ok (.getfield 154, 3) := by decide +kernel
theorem dX7_isParted_96 : decode cX7_isParted 96 = .ok (.iastore, 1) := by decide +kernel
theorem dX7_isParted_97 : decode cX7_isParted 97 = .ok (.aload_n 0, 1) := by decide +kernel
theorem dX7_isParted_98 : decode cX7_isParted 98 = .ok (.dup, 1) := by decide +kernel
theorem dX7_isParted_99 : decode cX7_isParted 99 = .ok (.getfield 179, 3) := by decide +kernel
theorem dX7_isParted_102 : decode cX7_isParted 102 = .ok (.aload_n 0, 1) := by decide +kernel
theorem dX7_isParted_103 : decode cX7_isParted 103 = .ok (.getfield 34, 3) := by decide +kernel
theorem dX7_isParted_106 : decode cX7_isParted 106 = .ok (.aload_n 0, 1) := by decide +kernel
theorem dX7_isParted_107 : decode cX7_isParted 107 = .ok (.getfield 148, 3) := by decide +kernel
theorem dX7_isParted_110 : decode cX7_isParted 110 = .ok (.iaload, 1) := by decide +kernel
theorem dX7_isParted_111 : decode cX7_isParted 111 = .ok (.invokestatic 132, 3) := by decide +kernel
theorem dX7_isParted_114 : decode cX7_isParted 114 = .ok (.aload_n 0, 1) := by decide +kernel
theorem dX7_isParted_115 : decode cX7_isParted 115 = .ok (.getfield 37, 3) := by decide +kernel
theorem dX7_isParted_118 : decode cX7_isParted 118 = .ok (.iconst 3, 1) := by decide +kernel
theorem dX7_isParted_119 : decode cX7_isParted 119 = .ok (.aload_n 0, 1) := by decide +kernel
theorem dX7_isParted_120 : decode cX7_isParted 120 = .ok (.getfield 173, 3) := by decide +kernel
theorem dX7_isParted_123 : decode cX7_isParted 123 = .ok (.imul, 1) := by decide +kernel
theorem dX7_isParted_124 : decode cX7_isParted 124 = .ok (.iconst 1, 1) := by decide +kernel
theorem dX7_isParted_125 : decode cX7_isParted 125 = .ok (.iadd, 1) := by decide +kernel
theorem dX7_isParted_126 : decode cX7_isParted 126 = .ok (.iaload, 1) := by decide +kernel
theorem dX7_isParted_127 : decode cX7_isParted 127 = .ok (.iadd, 1) := by decide +kernel
theorem dX7_isParted_128 : decode cX7_isParted 128 = .ok (.iconst 1, 1) := by decide +kernel
theorem dX7_isParted_129 : decode cX7_isParted 129 = .ok (.isub, 1) := by decide +kernel
theorem dX7_isParted_130 : decode cX7_isParted 130 = .ok (.iadd, 1) := by decide +kernel
theorem dX7_isParted_131 : decode cX7_isParted 131 = .ok (.putfield 179, 3) := by decide +kernel
theorem dX7_isParted_134 : decode cX7_isParted 134 = .ok (.aload_n 0, 1) := by decide +kernel
theorem dX7_isParted_135 : decode cX7_isParted 135 = .ok (.dup, 1) := by decide +kernel
theorem dX7_isParted_136 : decode cX7_isParted 136 = .ok (.getfield 173, 3) := by decide +kernel
theorem dX7_isParted_139 : decode cX7_isParted 139 = .ok (.iconst 1, 1) := by decide +kernel
theorem dX7_isParted_140 : decode cX7_isParted 140 = .ok (.iadd, 1) := by decide +kernel
theorem dX7_isParted_141 : decode cX7_isParted 141 = .ok (.putfield 173, 3) := by decide +kernel
theorem dX7_isParted_144 : decode cX7_isParted 144 = .ok (.aload_n 0, 1) := by decide +kernel
theorem dX7_isParted_145 : decode cX7_isParted 145 = .ok (.dup, 1) := by decide +kernel
theorem dX7_isParted_146 : decode cX7_isParted 146 = .ok (.getfield 176, 3) := by decide +kernel
theorem dX7_isParted_149 : decode cX7_isParted 149 = .ok (.aload_n 0, 1) := by decide +kernel
theorem dX7_isParted_150 : decode cX7_isParted 150 = .ok (.getfield 154, 3) := by decide +kernel
theorem dX7_isParted_153 : decode cX7_isParted 153 = .ok (.iconst (-1), 1) := by decide +kernel
theorem dX7_isParted_154 : decode cX7_isParted 154 = .ok (.ixor, 1) := by decide +kernel
theorem dX7_isParted_155 : decode cX7_isParted 155 = .ok (.iand, 1) := by decide +kernel
theorem dX7_isParted_156 : decode cX7_isParted 156 = .ok (.putfield 176, 3) := by decide +kernel
theorem dX7_isParted_159 : decode cX7_isParted 159 = .ok (.aload_n 0, 1) := by decide +kernel
theorem dX7_isParted_160 : decode cX7_isParted 160 = .ok (.aload_n 1, 1) := by decide +kernel
theorem dX7_isParted_161 : decode cX7_isParted 161 = .ok (.aload_n 0, 1) := by decide +kernel
theorem dX7_isParted_162 : decode cX7_isParted 162 = .ok (.getfield 176, 3) := by decide +kernel
theorem dX7_isParted_165 : decode cX7_isParted 165 = .ok (.invokevirtual 170, 3) := by decide +kernel
theorem dX7_isParted_168 : decode cX7_isParted 168 = .ok (.goto (-141), 3) := by decide +kernel
theorem dX7_isParted_171 : decode cX7_isParted 171 = .ok (.aload_n 0, 1) := by decide +kernel
theorem dX7_isParted_172 : decode cX7_isParted 172 = .ok (.dup, 1) := by decide +kernel
theorem dX7_isParted_173 : decode cX7_isParted 173 = .ok (.getfield 179, 3) := by decide +kernel
theorem dX7_isParted_176 : decode cX7_isParted 176 = .ok (.aload_n 0, 1) := by decide +kernel
theorem dX7_isParted_177 : decode cX7_isParted 177 = .ok (.getfield 176, 3) := by decide +kernel
theorem dX7_isParted_180 : decode cX7_isParted 180 = .ok (.invokestatic 132, 3) := by decide +kernel
theorem dX7_isParted_183 : decode cX7_isParted 183 = .ok (.iadd, 1) := by decide +kernel
theorem dX7_isParted_184 : decode cX7_isParted 184 = .ok (.putfield 179, 3) := by decide +kernel
theorem dX7_isParted_187 : decode cX7_isParted 187 = .ok (.return_, 1) := by decide +kernel
theorem dX7_parted_0 : decode cX7_parted 0 = .ok (.iload_n 1, 1) := by decide +kernel
theorem dX7_parted_1 : decode cX7_parted 1 = .ok (.ifCond .lt 12, 3) := by decide +kernel
theorem dX7_parted_4 : decode cX7_parted 4 = .ok (.iload_n 2, 1) := by decide +kernel
theorem dX7_parted_5 : decode cX7_parted 5 = .ok (.iconst 0, 1) := by decide +kernel
theorem dX7_parted_6 : decode cX7_parted 6 = .ok (.iconst 2, 1) := by decide +kernel
theorem dX7_parted_7 : decode cX7_parted 7 = .ok (.invokestatic 68, 3) := by decide +kernel
theorem dX7_parted_10 : decode cX7_parted 10 = .ok (.ifCond .ne 5, 3) := by decide +kernel
theorem dX7_parted_13 : decode cX7_parted 13 = .ok (.iconst (-1), 1) := by decide +kernel
theorem dX7_parted_14 : decode cX7_parted 14 = .ok (.ireturn, 1) := by decide +kernel
theorem dX7_parted_15 : decode cX7_parted 15 = .ok (.aload_n 0, 1) := by decide +kernel
theorem dX7_parted_16 : decode cX7_parted 16 = .ok (.aload_n 0, 1) := by decide +kernel
theorem dX7_parted_17 : decode cX7_parted 17 = .ok (.getfield 7, 3) := by decide +kernel
theorem dX7_parted_20 : decode cX7_parted 20 = .ok (.invokevirtual 182, 3) := by decide +kernel
theorem dX7_parted_23 : decode cX7_parted 23 = .ok (.iload_n 1, 1) := by decide +kernel
theorem dX7_parted_24 : decode cX7_parted 24 = .ok (.aload_n 0, 1) := by decide +kernel
theorem dX7_parted_25 : decode cX7_parted 25 = .ok (.getfield 173, 3) := by decide +kernel
theorem dX7_parted_28 : decode cX7_parted 28 = .ok (.if_icmp .ge 16, 3) := by decide +kernel
theorem dX7_parted_31 : decode cX7_parted 31 = .ok (.aload_n 0, 1) := by decide +kernel
theorem dX7_parted_32 : decode cX7_parted 32 = .ok (.getfield 37, 3) := by decide +kernel
theorem dX7_parted_35 : decode cX7_parted 35 = .ok (.iconst 3, 1) := by decide +kernel
theorem dX7_parted_36 : decode cX7_parted 36 = .ok (.iload_n 1, 1) := by decide +kernel
theorem dX7_parted_37 : decode cX7_parted 37 = .ok (.imul, 1) := by decide +kernel
theorem dX7_parted_38 : decode cX7_parted 38 = .ok (.iload_n 2, 1) := by decide +kernel
theorem dX7_parted_39 : decode cX7_parted 39 = .ok (.iadd, 1) := by decide +kernel
theorem dX7_parted_40 : decode cX7_parted 40 = .ok (.iaload, 1) := by decide +kernel
theorem dX7_parted_41 : decode cX7_parted 41 = .ok (.goto 5, 3) := by decide +kernel
theorem dX7_parted_44 : decode cX7_parted 44 = .ok (.bipush (-4), 2) := by decide +kernel
theorem dX7_parted_46 : decode cX7_parted 46 = .ok (.ireturn, 1) := by decide +kernel
theorem dX7_parting_0 : decode cX7_parting 0 = .ok (.iload_n 1, 1) := by decide +kernel
theorem dX7_parting_1 : decode cX7_parting 1 = .ok (.iconst 0, 1) := by decide +kernel
theorem dX7_parting_2 : decode cX7_parting 2 = .ok (.iconst 2, 1) := by decide +kernel
theorem dX7_parting_3 : decode cX7_parting 3 = .ok (.invokestatic 68, 3) := by decide +kernel
theorem dX7_parting_6 : decode cX7_parting 6 = .ok (.ifCond .ne 5, 3) := by decide +kernel
theorem dX7_parting_9 : decode cX7_parting 9 = .ok (.iconst (-1), 1) := by decide +kernel
theorem dX7_parting_10 : decode cX7_parting 10 = .ok (.ireturn, 1) := by decide +kernel
theorem dX7_parting_11 : decode cX7_parting 11 = .ok (.aload_n 0, 1) := by decide +kernel
theorem dX7_parting_12 : decode cX7_parting 12 = .ok (.aload_n 0, 1) := by decide +kernel
theorem dX7_parting_13 : decode cX7_parting 13 = .ok (.getfield 7, 3) := by decide +kernel
theorem dX7_parting_16 : decode cX7_parting 16 = .ok (.invokevirtual 182, 3) := by decide +kernel
theorem dX7_parting_19 : decode cX7_parting 19 = .ok (.iload_n 1, 1) := by decide +kernel
theorem dX7_parting_20 : decode cX7_parting 20 = .ok (.ifCond .ne 10, 3) := by decide +kernel
theorem dX7_parting_23 : decode cX7_parting 23 = .ok (.aload_n 0, 1) := by decide +kernel
theorem dX7_parting_24 : decode cX7_parting 24 = .ok (.getfield 173, 3) := by decide +kernel
theorem dX7_parting_27 : decode cX7_parting 27 = .ok (.goto 19, 3) := by decide +kernel
theorem dX7_parting_30 : decode cX7_parting 30 = .ok (.iload_n 1, 1) := by decide +kernel
theorem dX7_parting_31 : decode cX7_parting 31 = .ok (.iconst 1, 1) := by decide +kernel
theorem dX7_parting_32 : decode cX7_parting 32 = .ok (.if_icmp .ne 10, 3) := by decide +kernel
theorem dX7_parting_35 : decode cX7_parting 35 = .ok (.aload_n 0, 1) := by decide +kernel
theorem dX7_parting_36 : decode cX7_parting 36 = .ok (.getfield 176, 3) := by decide +kernel
theorem dX7_parting_39 : decode cX7_parting 39 = .ok (.goto 7, 3) := by decide +kernel
theorem dX7_parting_42 : decode cX7_parting 42 = .ok (.aload_n 0, 1) := by decide +kernel
theorem dX7_parting_43 : decode cX7_parting 43 = .ok (.getfield 179, 3) := by decide +kernel
theorem dX7_parting_46 : decode cX7_parting 46 = .ok (.ireturn, 1) := by decide +kernel
theorem dX7_fewest_0 : decode cX7_fewest 0 = .ok (.iconst 0, 1) := by decide +kernel
theorem dX7_fewest_1 : decode cX7_fewest 1 = .ok (.istore_n 2, 1) := by decide +kernel
theorem dX7_fewest_2 : decode cX7_fewest 2 = .ok (.iload_n 2, 1) := by decide +kernel
theorem dX7_fewest_3 : decode cX7_fewest 3 = .ok (.sipush 16384, 3) := by decide +kernel
theorem dX7_fewest_6 : decode cX7_fewest 6 = .ok (.if_icmp .ge 16, 3) := by decide +kernel
theorem dX7_fewest_9 : decode cX7_fewest 9 = .ok (.aload_n 0, 1) := by decide +kernel
theorem dX7_fewest_10 : decode cX7_fewest 10 = .ok (.getfield 40, 3) := by decide +kernel
theorem dX7_fewest_13 : decode cX7_fewest 13 = .ok (.iload_n 2, 1) := by decide +kernel
theorem dX7_fewest_14 : decode cX7_fewest 14 = .ok (.iconst (-1), 1) := by decide +kernel
theorem dX7_fewest_15 : decode cX7_fewest 15 = .ok (.iastore, 1) := by decide +kernel
theorem dX7_fewest_16 : decode cX7_fewest 16 = .ok (.iinc 2 1, 3) := by decide +kernel
theorem dX7_fewest_19 : decode cX7_fewest 19 = .ok (.goto (-17), 3) := by decide +kernel
theorem dX7_fewest_22 : decode cX7_fewest 22 = .ok (.aload_n 0, 1) := by decide +kernel
theorem dX7_fewest_23 : decode cX7_fewest 23 = .ok (.getfield 40, 3) := by decide +kernel
theorem dX7_fewest_26 : decode cX7_fewest 26 = .ok (.iconst 0, 1) := by decide +kernel
theorem dX7_fewest_27 : decode cX7_fewest 27 = .ok (.iconst 0, 1) := by decide +kernel
theorem dX7_fewest_28 : decode cX7_fewest 28 = .ok (.iastore, 1) := by decide +kernel
theorem dX7_fewest_29 : decode cX7_fewest 29 = .ok (.iconst 0, 1) := by decide +kernel
theorem dX7_fewest_30 : decode cX7_fewest 30 = .ok (.istore_n 2, 1) := by decide +kernel
theorem dX7_fewest_31 : decode cX7_fewest 31 = .ok (.aload_n 0, 1) := by decide +kernel
theorem dX7_fewest_32 : decode cX7_fewest 32 = .ok (.getfield 40, 3) := by decide +kernel
theorem dX7_fewest_35 : decode cX7_fewest 35 = .ok (.iload_n 1, 1) := by decide +kernel
theorem dX7_fewest_36 : decode cX7_fewest 36 = .ok (.iaload, 1) := by decide +kernel
theorem dX7_fewest_37 : decode cX7_fewest 37 = .ok (.ifCond .ge 93, 3) := by decide +kernel
theorem dX7_fewest_40 : decode cX7_fewest 40 = .ok (.iconst 0, 1) := by decide +kernel
theorem dX7_fewest_41 : decode cX7_fewest 41 = .ok (.istore_n 3, 1) := by decide +kernel
theorem dX7_fewest_42 : decode cX7_fewest 42 = .ok (.iload_n 3, 1) := by decide +kernel
theorem dX7_fewest_43 : decode cX7_fewest 43 = .ok (.sipush 16384, 3) := by decide +kernel
theorem dX7_fewest_46 : decode cX7_fewest 46 = .ok (.if_icmp .ge 78, 3) := by decide +kernel
theorem dX7_fewest_49 : decode cX7_fewest 49 = .ok (.aload_n 0, 1) := by decide +kernel
theorem dX7_fewest_50 : decode cX7_fewest 50 = .ok (.getfield 40, 3) := by decide +kernel
theorem dX7_fewest_53 : decode cX7_fewest 53 = .ok (.iload_n 3, 1) := by decide +kernel
theorem dX7_fewest_54 : decode cX7_fewest 54 = .ok (.iaload, 1) := by decide +kernel
theorem dX7_fewest_55 : decode cX7_fewest 55 = .ok (.iload_n 2, 1) := by decide +kernel
theorem dX7_fewest_56 : decode cX7_fewest 56 = .ok (.if_icmp .ne 62, 3) := by decide +kernel
theorem dX7_fewest_59 : decode cX7_fewest 59 = .ok (.iconst 0, 1) := by decide +kernel
theorem dX7_fewest_60 : decode cX7_fewest 60 = .ok (.istore 4, 2) := by decide +kernel
theorem dX7_fewest_62 : decode cX7_fewest 62 = .ok (.iload 4, 2) := by decide +kernel
theorem dX7_fewest_64 : decode cX7_fewest 64 = .ok (.aload_n 0, 1) := by decide +kernel
theorem dX7_fewest_65 : decode cX7_fewest 65 = .ok (.getfield 136, 3) := by decide +kernel
theorem dX7_fewest_68 : decode cX7_fewest 68 = .ok (.if_icmp .ge 50, 3) := by decide +kernel
theorem dX7_fewest_71 : decode cX7_fewest 71 = .ok (.iload_n 3, 1) := by decide +kernel
theorem dX7_fewest_72 : decode cX7_fewest 72 = .ok (.aload_n 0, 1) := by decide +kernel
theorem dX7_fewest_73 : decode cX7_fewest 73 = .ok (.getfield 43, 3) := by decide +kernel
theorem dX7_fewest_76 : decode cX7_fewest 76 = .ok (.iload 4, 2) := by decide +kernel
theorem dX7_fewest_78 : decode cX7_fewest 78 = .ok (.iaload, 1) := by decide +kernel
theorem dX7_fewest_79 : decode cX7_fewest 79 = .ok (.ior, 1) := by decide +kernel
theorem dX7_fewest_80 : decode cX7_fewest 80 = .ok (.istore 5, 2) := by decide +kernel
theorem dX7_fewest_82 : decode cX7_fewest 82 = .ok (.aload_n 0, 1) := by decide +kernel
theorem dX7_fewest_83 : decode cX7_fewest 83 = .ok (.getfield 40, 3) := by decide +kernel
theorem dX7_fewest_86 : decode cX7_fewest 86 = .ok (.iload 5, 2) := by decide +kernel
theorem dX7_fewest_88 : decode cX7_fewest 88 = .ok (.aload_n 0, 1) := by decide +kernel
theorem dX7_fewest_89 : decode cX7_fewest 89 = .ok (.getfield 40, 3) := by decide +kernel
theorem dX7_fewest_92 : decode cX7_fewest 92 = .ok (.iload 5, 2) := by decide +kernel
theorem dX7_fewest_94 : decode cX7_fewest 94 = .ok (.iaload, 1) := by decide +kernel
theorem dX7_fewest_95 : decode cX7_fewest 95 = .ok (.ifCond .ge 9, 3) := by decide +kernel
theorem dX7_fewest_98 : decode cX7_fewest 98 = .ok (.iload_n 2, 1) := by decide +kernel
theorem dX7_fewest_99 : decode cX7_fewest 99 = .ok (.iconst 1, 1) := by decide +kernel
theorem dX7_fewest_100 : decode cX7_fewest 100 = .ok (.iadd, 1) := by decide +kernel
theorem dX7_fewest_101 : decode cX7_fewest 101 = .ok (.goto 10, 3) := by decide +kernel
theorem dX7_fewest_104 : decode cX7_fewest 104 = .ok (.aload_n 0, 1) := by decide +kernel
theorem dX7_fewest_105 : decode cX7_fewest 105 = .ok (.getfield 40, 3) := by decide +kernel
theorem dX7_fewest_108 : decode cX7_fewest 108 = .ok (.iload 5, 2) := by decide +kernel
theorem dX7_fewest_110 : decode cX7_fewest 110 = .ok (.iaload, 1) := by decide +kernel
theorem dX7_fewest_111 : decode cX7_fewest 111 = .ok (.iastore, 1) := by decide +kernel
theorem dX7_fewest_112 : decode cX7_fewest 112 = .ok (.iinc 4 1, 3) := by decide +kernel
theorem dX7_fewest_115 : decode cX7_fewest 115 = .ok (.goto (-53), 3) := by decide +kernel
theorem dX7_fewest_118 : decode cX7_fewest 118 = .ok (.iinc 3 1, 3) := by decide +kernel
theorem dX7_fewest_121 : decode cX7_fewest 121 = .ok (.goto (-79), 3) := by decide +kernel
theorem dX7_fewest_124 : decode cX7_fewest 124 = .ok (.iinc 2 1, 3) := by decide +kernel
theorem dX7_fewest_127 : decode cX7_fewest 127 = .ok (.goto (-96), 3) := by decide +kernel
theorem dX7_fewest_130 : decode cX7_fewest 130 = .ok (.aload_n 0, 1) := by decide +kernel
theorem dX7_fewest_131 : decode cX7_fewest 131 = .ok (.getfield 40, 3) := by decide +kernel
theorem dX7_fewest_134 : decode cX7_fewest 134 = .ok (.iload_n 1, 1) := by decide +kernel
theorem dX7_fewest_135 : decode cX7_fewest 135 = .ok (.iaload, 1) := by decide +kernel
theorem dX7_fewest_136 : decode cX7_fewest 136 = .ok (.ireturn, 1) := by decide +kernel
theorem dX7_shapes_0 : decode cX7_shapes 0 = .ok (.iload_n 1, 1) := by decide +kernel
theorem dX7_shapes_1 : decode cX7_shapes 1 = .ok (.iconst 0, 1) := by decide +kernel
theorem dX7_shapes_2 : decode cX7_shapes 2 = .ok (.iconst 2, 1) := by decide +kernel
theorem dX7_shapes_3 : decode cX7_shapes 3 = .ok (.invokestatic 68, 3) := by decide +kernel
theorem dX7_shapes_6 : decode cX7_shapes 6 = .ok (.ifCond .ne 5, 3) := by decide +kernel
theorem dX7_shapes_9 : decode cX7_shapes 9 = .ok (.iconst (-1), 1) := by decide +kernel
theorem dX7_shapes_10 : decode cX7_shapes 10 = .ok (.ireturn, 1) := by decide +kernel
theorem dX7_shapes_11 : decode cX7_shapes 11 = .ok (.aload_n 0, 1) := by decide +kernel
theorem dX7_shapes_12 : decode cX7_shapes 12 = .ok (.aload_n 0, 1) := by decide +kernel
theorem dX7_shapes_13 : decode cX7_shapes 13 = .ok (.getfield 7, 3) := by decide +kernel
theorem dX7_shapes_16 : decode cX7_shapes 16 = .ok (.aload_n 0, 1) := by decide +kernel
theorem dX7_shapes_17 : decode cX7_shapes 17 = .ok (.getfield 7, 3) := by decide +kernel
theorem dX7_shapes_20 : decode cX7_shapes 20 = .ok (.invokestatic 166, 3) := by decide +kernel
theorem dX7_shapes_23 : decode cX7_shapes 23 = .ok (.invokevirtual 145, 3) := by decide +kernel
theorem dX7_shapes_26 : decode cX7_shapes 26 = .ok (.iconst 0, 1) := by decide +kernel
theorem dX7_shapes_27 : decode cX7_shapes 27 = .ok (.istore_n 2, 1) := by decide +kernel
theorem dX7_shapes_28 : decode cX7_shapes 28 = .ok (.iconst 0, 1) := by decide +kernel
theorem dX7_shapes_29 : decode cX7_shapes 29 = .ok (.istore_n 3, 1) := by decide +kernel
theorem dX7_shapes_30 : decode cX7_shapes 30 = .ok (.iload_n 3, 1) := by decide +kernel
theorem dX7_shapes_31 : decode cX7_shapes 31 = .ok (.aload_n 0, 1) := by decide +kernel
theorem dX7_shapes_32 : decode cX7_shapes 32 = .ok (.getfield 136, 3) := by decide +kernel
theorem dX7_shapes_35 : decode cX7_shapes 35 = .ok (.if_icmp .ge 42, 3) := by decide +kernel
theorem dX7_shapes_38 : decode cX7_shapes 38 = .ok (.aload_n 0, 1) := by decide +kernel
theorem dX7_shapes_39 : decode cX7_shapes 39 = .ok (.aload_n 0, 1) := by decide +kernel
theorem dX7_shapes_40 : decode cX7_shapes 40 = .ok (.getfield 7, 3) := by decide +kernel
theorem dX7_shapes_43 : decode cX7_shapes 43 = .ok (.aload_n 0, 1) := by decide +kernel
theorem dX7_shapes_44 : decode cX7_shapes 44 = .ok (.getfield 34, 3) := by decide +kernel
theorem dX7_shapes_47 : decode cX7_shapes 47 = .ok (.iload_n 3, 1) := by decide +kernel
theorem dX7_shapes_48 : decode cX7_shapes 48 = .ok (.iaload, 1) := by decide +kernel
theorem dX7_shapes_49 : decode cX7_shapes 49 = .ok (.invokevirtual 157, 3) := by decide +kernel
theorem dX7_shapes_52 : decode cX7_shapes 52 = .ok (.aload_n 0, 1) := by decide +kernel
theorem dX7_shapes_53 : decode cX7_shapes 53 = .ok (.getfield 43, 3) := by decide +kernel
theorem dX7_shapes_56 : decode cX7_shapes 56 = .ok (.iload_n 3, 1) := by decide +kernel
theorem dX7_shapes_57 : decode cX7_shapes 57 = .ok (.aload_n 0, 1) := by decide +kernel
theorem dX7_shapes_58 : decode cX7_shapes 58 = .ok (.getfield 129, 3) := by decide +kernel
theorem dX7_shapes_61 : decode cX7_shapes 61 = .ok (.iastore, 1) := by decide +kernel
theorem dX7_shapes_62 : decode cX7_shapes 62 = .ok (.iload_n 2, 1) := by decide +kernel
theorem dX7_shapes_63 : decode cX7_shapes 63 = .ok (.aload_n 0, 1) := by decide +kernel
theorem dX7_shapes_64 : decode cX7_shapes 64 = .ok (.getfield 43, 3) := by decide +kernel
theorem dX7_shapes_67 : decode cX7_shapes 67 = .ok (.iload_n 3, 1) := by decide +kernel
theorem dX7_shapes_68 : decode cX7_shapes 68 = .ok (.iaload, 1) := by decide +kernel
theorem dX7_shapes_69 : decode cX7_shapes 69 = .ok (.ior, 1) := by decide +kernel
theorem dX7_shapes_70 : decode cX7_shapes 70 = .ok (.istore_n 2, 1) := by decide +kernel
theorem dX7_shapes_71 : decode cX7_shapes 71 = .ok (.iinc 3 1, 3) := by decide +kernel
theorem dX7_shapes_74 : decode cX7_shapes 74 = .ok (.goto (-44), 3) := by decide +kernel
theorem dX7_shapes_77 : decode cX7_shapes 77 = .ok (.iload_n 1, 1) := by decide +kernel
theorem dX7_shapes_78 : decode cX7_shapes 78 = .ok (.ifCond .ne 10, 3) := by decide +kernel
theorem dX7_shapes_81 : decode cX7_shapes 81 = .ok (.aload_n 0, 1) := by decide +kernel
theorem dX7_shapes_82 : decode cX7_shapes 82 = .ok (.getfield 136, 3) := by decide +kernel
theorem dX7_shapes_85 : decode cX7_shapes 85 = .ok (.goto 27, 3) := by decide +kernel
theorem dX7_shapes_88 : decode cX7_shapes 88 = .ok (.iload_n 1, 1) := by decide +kernel
theorem dX7_shapes_89 : decode cX7_shapes 89 = .ok (.iconst 1, 1) := by decide +kernel
theorem dX7_shapes_90 : decode cX7_shapes 90 = .ok (.if_icmp .ne 11, 3) := by decide +kernel
theorem dX7_shapes_93 : decode cX7_shapes 93 = .ok (.aload_n 0, 1) := by decide +kernel
theorem dX7_shapes_94 : decode cX7_shapes 94 = .ok (.iload_n 2, 1) := by decide +kernel
theorem dX7_shapes_95 : decode cX7_shapes 95 = .ok (.invokevirtual 186, 3) := by decide +kernel
theorem dX7_shapes_98 : decode cX7_shapes 98 = .ok (.goto 14, 3) := by decide +kernel
theorem dX7_shapes_101 : decode cX7_shapes 101 = .ok (.aload_n 0, 1) := by decide +kernel
theorem dX7_shapes_102 : decode cX7_shapes 102 = .ok (.getfield 7, 3) := by decide +kernel
theorem dX7_shapes_105 : decode cX7_shapes 105 = .ok (.invokestatic 166, 3) := by decide +kernel
theorem dX7_shapes_108 : decode cX7_shapes 108 = .ok (.iload_n 2, 1) := by decide +kernel
theorem dX7_shapes_109 : decode cX7_shapes 109 = .ok (.iconst (-1), 1) := by decide +kernel
theorem dX7_shapes_110 : decode cX7_shapes 110 = .ok (.ixor, 1) := by decide +kernel
theorem dX7_shapes_111 : decode cX7_shapes 111 = .ok (.iand, 1) := by decide +kernel
theorem dX7_shapes_112 : decode cX7_shapes 112 = .ok (.ireturn, 1) := by decide +kernel
theorem dX7_link_0 : decode cX7_link 0 = .ok (.aload_n 0, 1) := by decide +kernel
theorem dX7_link_1 : decode cX7_link 1 = .ok (.iload_n 1, 1) := by decide +kernel
theorem dX7_link_2 : decode cX7_link 2 = .ok (.invokevirtual 92, 3) := by decide +kernel
theorem dX7_link_5 : decode cX7_link 5 = .ok (.ifCond .eq 25, 3) := by decide +kernel
theorem dX7_link_8 : decode cX7_link 8 = .ok (.aload_n 0, 1) := by decide +kernel
theorem dX7_link_9 : decode cX7_link 9 = .ok (.iload_n 2, 1) := by decide +kernel
theorem dX7_link_10 : decode cX7_link 10 = .ok (.invokevirtual 92, 3) := by decide +kernel
theorem dX7_link_13 : decode cX7_link 13 = .ok (.ifCond .eq 17, 3) := by decide +kernel
theorem dX7_link_16 : decode cX7_link 16 = .ok (.iload_n 1, 1) := by decide +kernel
theorem dX7_link_17 : decode cX7_link 17 = .ok (.iload_n 2, 1) := by decide +kernel
theorem dX7_link_18 : decode cX7_link 18 = .ok (.if_icmp .eq 12, 3) := by decide +kernel
theorem dX7_link_21 : decode cX7_link 21 = .ok (.iload_n 3, 1) := by decide +kernel
theorem dX7_link_22 : decode cX7_link 22 = .ok (.iconst 0, 1) := by decide +kernel
theorem dX7_link_23 : decode cX7_link 23 = .ok (.iconst 2, 1) := by decide +kernel
theorem dX7_link_24 : decode cX7_link 24 = .ok (.invokestatic 68, 3) := by decide +kernel
theorem dX7_link_27 : decode cX7_link 27 = .ok (.ifCond .ne 5, 3) := by decide +kernel
theorem dX7_link_30 : decode cX7_link 30 = .ok (.iconst (-1), 1) := by decide +kernel
theorem dX7_link_31 : decode cX7_link 31 = .ok (.ireturn, 1) := by decide +kernel
theorem dX7_link_32 : decode cX7_link 32 = .ok (.aload_n 0, 1) := by decide +kernel
theorem dX7_link_33 : decode cX7_link 33 = .ok (.getfield 7, 3) := by decide +kernel
theorem dX7_link_36 : decode cX7_link 36 = .ok (.iconst 2, 1) := by decide +kernel
theorem dX7_link_37 : decode cX7_link 37 = .ok (.iload_n 2, 1) := by decide +kernel
theorem dX7_link_38 : decode cX7_link 38 = .ok (.iadd, 1) := by decide +kernel
theorem dX7_link_39 : decode cX7_link 39 = .ok (.iaload, 1) := by decide +kernel
theorem dX7_link_40 : decode cX7_link 40 = .ok (.aload_n 0, 1) := by decide +kernel
theorem dX7_link_41 : decode cX7_link 41 = .ok (.getfield 7, 3) := by decide +kernel
theorem dX7_link_44 : decode cX7_link 44 = .ok (.iconst 2, 1) := by decide +kernel
theorem dX7_link_45 : decode cX7_link 45 = .ok (.iload_n 1, 1) := by decide +kernel
theorem dX7_link_46 : decode cX7_link 46 = .ok (.iadd, 1) := by decide +kernel
theorem dX7_link_47 : decode cX7_link 47 = .ok (.iaload, 1) := by decide +kernel
theorem dX7_link_48 : decode cX7_link 48 = .ok (.isub, 1) := by decide +kernel
theorem dX7_link_49 : decode cX7_link 49 = .ok (.istore 4, 2) := by decide +kernel
theorem dX7_link_51 : decode cX7_link 51 = .ok (.aload_n 0, 1) := by decide +kernel
theorem dX7_link_52 : decode cX7_link 52 = .ok (.getfield 7, 3) := by decide +kernel
theorem dX7_link_55 : decode cX7_link 55 = .ok (.bipush 16, 2) := by decide +kernel
theorem dX7_link_57 : decode cX7_link 57 = .ok (.iload_n 2, 1) := by decide +kernel
theorem dX7_link_58 : decode cX7_link 58 = .ok (.iadd, 1) := by decide +kernel
theorem dX7_link_59 : decode cX7_link 59 = .ok (.iaload, 1) := by decide +kernel
theorem dX7_link_60 : decode cX7_link 60 = .ok (.aload_n 0, 1) := by decide +kernel
theorem dX7_link_61 : decode cX7_link 61 = .ok (.getfield 7, 3) := by decide +kernel
theorem dX7_link_64 : decode cX7_link 64 = .ok (.bipush 16, 2) := by decide +kernel
theorem dX7_link_66 : decode cX7_link 66 = .ok (.iload_n 1, 1) := by decide +kernel
theorem dX7_link_67 : decode cX7_link 67 = .ok (.iadd, 1) := by decide +kernel
theorem dX7_link_68 : decode cX7_link 68 = .ok (.iaload, 1) := by decide +kernel
theorem dX7_link_69 : decode cX7_link 69 = .ok (.isub, 1) := by decide +kernel
theorem dX7_link_70 : decode cX7_link 70 = .ok (.istore 5, 2) := by decide +kernel
theorem dX7_link_72 : decode cX7_link 72 = .ok (.aload_n 0, 1) := by decide +kernel
theorem dX7_link_73 : decode cX7_link 73 = .ok (.getfield 7, 3) := by decide +kernel
theorem dX7_link_76 : decode cX7_link 76 = .ok (.iconst 1, 1) := by decide +kernel
theorem dX7_link_77 : decode cX7_link 77 = .ok (.iaload, 1) := by decide +kernel
theorem dX7_link_78 : decode cX7_link 78 = .ok (.iconst 1, 1) := by decide +kernel
theorem dX7_link_79 : decode cX7_link 79 = .ok (.if_icmp .ne 14, 3) := by decide +kernel
theorem dX7_link_82 : decode cX7_link 82 = .ok (.iload 5, 2) := by decide +kernel
theorem dX7_link_84 : decode cX7_link 84 = .ok (.bipush 12, 2) := by decide +kernel
theorem dX7_link_86 : decode cX7_link 86 = .ok (.iadd, 1) := by decide +kernel
theorem dX7_link_87 : decode cX7_link 87 = .ok (.bipush 12, 2) := by decide +kernel
theorem dX7_link_89 : decode cX7_link 89 = .ok (.irem, 1) := by decide +kernel
theorem dX7_link_90 : decode cX7_link 90 = .ok (.goto 5, 3) := by decide +kernel
theorem dX7_link_93 : decode cX7_link 93 = .ok (.iload 5, 2) := by decide +kernel
theorem dX7_link_95 : decode cX7_link 95 = .ok (.istore 5, 2) := by decide +kernel
theorem dX7_link_97 : decode cX7_link 97 = .ok (.iload_n 3, 1) := by decide +kernel
theorem dX7_link_98 : decode cX7_link 98 = .ok (.iconst 2, 1) := by decide +kernel
theorem dX7_link_99 : decode cX7_link 99 = .ok (.if_icmp .ge 18, 3) := by decide +kernel
theorem dX7_link_102 : decode cX7_link 102 = .ok (.iload_n 3, 1) := by decide +kernel
theorem dX7_link_103 : decode cX7_link 103 = .ok (.ifCond .ne 8, 3) := by decide +kernel
theorem dX7_link_106 : decode cX7_link 106 = .ok (.iload 4, 2) := by decide +kernel
theorem dX7_link_108 : decode cX7_link 108 = .ok (.goto 5, 3) := by decide +kernel
theorem dX7_link_111 : decode cX7_link 111 = .ok (.iload 5, 2) := by decide +kernel
theorem dX7_link_113 : decode cX7_link 113 = .ok (.bipush 50, 2) := by decide +kernel
theorem dX7_link_115 : decode cX7_link 115 = .ok (.iadd, 1) := by decide +kernel
theorem dX7_link_116 : decode cX7_link 116 = .ok (.ireturn, 1) := by decide +kernel
theorem dX7_link_117 : decode cX7_link 117 = .ok (.aload_n 0, 1) := by decide +kernel
theorem dX7_link_118 : decode cX7_link 118 = .ok (.aload_n 0, 1) := by decide +kernel
theorem dX7_link_119 : decode cX7_link 119 = .ok (.getfield 7, 3) := by decide +kernel
theorem dX7_link_122 : decode cX7_link 122 = .ok (.aload_n 0, 1) := by decide +kernel
theorem dX7_link_123 : decode cX7_link 123 = .ok (.getfield 7, 3) := by decide +kernel
theorem dX7_link_126 : decode cX7_link 126 = .ok (.invokestatic 166, 3) := by decide +kernel
theorem dX7_link_129 : decode cX7_link 129 = .ok (.invokevirtual 139, 3) := by decide +kernel
theorem dX7_link_132 : decode cX7_link 132 = .ok (.aload_n 0, 1) := by decide +kernel
theorem dX7_link_133 : decode cX7_link 133 = .ok (.getfield 31, 3) := by decide +kernel
theorem dX7_link_136 : decode cX7_link 136 = .ok (.bipush 23, 2) := by decide +kernel
theorem dX7_link_138 : decode cX7_link 138 = .ok (.iload 4, 2) := by decide +kernel
theorem dX7_link_140 : decode cX7_link 140 = .ok (.bipush 19, 2) := by decide +kernel
theorem dX7_link_142 : decode cX7_link 142 = .ok (.iadd, 1) := by decide +kernel
theorem dX7_link_143 : decode cX7_link 143 = .ok (.imul, 1) := by decide +kernel
theorem dX7_link_144 : decode cX7_link 144 = .ok (.iload 5, 2) := by decide +kernel
theorem dX7_link_146 : decode cX7_link 146 = .ok (.iadd, 1) := by decide +kernel
theorem dX7_link_147 : decode cX7_link 147 = .ok (.bipush 11, 2) := by decide +kernel
theorem dX7_link_149 : decode cX7_link 149 = .ok (.iadd, 1) := by decide +kernel
theorem dX7_link_150 : decode cX7_link 150 = .ok (.iaload, 1) := by decide +kernel
theorem dX7_link_151 : decode cX7_link 151 = .ok (.invokestatic 132, 3) := by decide +kernel
theorem dX7_link_154 : decode cX7_link 154 = .ok (.ireturn, 1) := by decide +kernel
theorem dX7_better_0 : decode cX7_better 0 = .ok (.iload_n 1, 1) := by decide +kernel
theorem dX7_better_1 : decode cX7_better 1 = .ok (.iconst 0, 1) := by decide +kernel
theorem dX7_better_2 : decode cX7_better 2 = .ok (.iconst 1, 1) := by decide +kernel
theorem dX7_better_3 : decode cX7_better 3 = .ok (.invokestatic 68, 3) := by decide +kernel
theorem dX7_better_6 : decode cX7_better 6 = .ok (.ifCond .ne 5, 3) := by decide +kernel
theorem dX7_better_9 : decode cX7_better 9 = .ok (.iconst (-1), 1) := by decide +kernel
theorem dX7_better_10 : decode cX7_better 10 = .ok (.ireturn, 1) := by decide +kernel
theorem dX7_better_11 : decode cX7_better 11 = .ok (.aload_n 0, 1) := by decide +kernel
theorem dX7_better_12 : decode cX7_better 12 = .ok (.getfield 7, 3) := by decide +kernel
theorem dX7_better_15 : decode cX7_better 15 = .ok (.iconst 0, 1) := by decide +kernel
theorem dX7_better_16 : decode cX7_better 16 = .ok (.iaload, 1) := by decide +kernel
theorem dX7_better_17 : decode cX7_better 17 = .ok (.bipush 14, 2) := by decide +kernel
theorem dX7_better_19 : decode cX7_better 19 = .ok (.if_icmp .ne 6, 3) := by decide +kernel
theorem dX7_better_22 : decode cX7_better 22 = .ok (.bipush (-4), 2) := by decide +kernel
theorem dX7_better_24 : decode cX7_better 24 = .ok (.ireturn, 1) := by decide +kernel
theorem dX7_better_25 : decode cX7_better 25 = .ok (.bipush (-4), 2) := by decide +kernel
theorem dX7_better_27 : decode cX7_better 27 = .ok (.istore_n 2, 1) := by decide +kernel
theorem dX7_better_28 : decode cX7_better 28 = .ok (.bipush (-4), 2) := by decide +kernel
theorem dX7_better_30 : decode cX7_better 30 = .ok (.istore_n 3, 1) := by decide +kernel
theorem dX7_better_31 : decode cX7_better 31 = .ok (.iconst 0, 1) := by decide +kernel
theorem dX7_better_32 : decode cX7_better 32 = .ok (.istore 4, 2) := by decide +kernel
theorem dX7_better_34 : decode cX7_better 34 = .ok (.iconst 0, 1) := by decide +kernel
theorem dX7_better_35 : decode cX7_better 35 = .ok (.istore 5, 2) := by decide +kernel
theorem dX7_better_37 : decode cX7_better 37 = .ok (.iload 5, 2) := by decide +kernel
theorem dX7_better_39 : decode cX7_better 39 = .ok (.sipush 240, 3) := by decide +kernel
theorem dX7_better_42 : decode cX7_better 42 = .ok (.if_icmp .ge 184, 3) := by decide +kernel
theorem dX7_better_45 : decode cX7_better 45 = .ok (.aload_n 0, 1) := by decide +kernel
theorem dX7_better_46 : decode cX7_better 46 = .ok (.getfield 7, 3) := by decide +kernel
theorem dX7_better_49 : decode cX7_better 49 = .ok (.iload 5, 2) := by decide +kernel
theorem dX7_better_51 : decode cX7_better 51 = .ok (.bipush 12, 2) := by decide +kernel
theorem dX7_better_53 : decode cX7_better 53 = .ok (.idiv, 1) := by decide +kernel
theorem dX7_better_54 : decode cX7_better 54 = .ok (.iload 5, 2) := by decide +kernel
theorem dX7_better_56 : decode cX7_better 56 = .ok (.bipush 12, 2) := by decide +kernel
theorem dX7_better_58 : decode cX7_better 58 = .ok (.irem, 1) := by decide +kernel
theorem dX7_better_59 : decode cX7_better 59 = .ok (.invokestatic 76, 3) := by decide +kernel
theorem dX7_better_62 : decode cX7_better 62 = .ok (.bipush (-4), 2) := by decide +kernel
theorem dX7_better_64 : decode cX7_better 64 = .ok (.if_icmp .ne 156, 3) := by decide +kernel
theorem dX7_better_67 : decode cX7_better 67 = .ok (.aload_n 0, 1) := by decide +kernel
theorem dX7_better_68 : decode cX7_better 68 = .ok (.getfield 7, 3) := by decide +kernel
theorem dX7_better_71 : decode cX7_better 71 = .ok (.iconst 0, 1) := by decide +kernel
theorem dX7_better_72 : decode cX7_better 72 = .ok (.aload_n 0, 1) := by decide +kernel
theorem dX7_better_73 : decode cX7_better 73 = .ok (.getfield 16, 3) := by decide +kernel
theorem dX7_better_76 : decode cX7_better 76 = .ok (.iconst 0, 1) := by decide +kernel
theorem dX7_better_77 : decode cX7_better 77 = .ok (.invokestatic 49, 3) := by decide +kernel
theorem dX7_better_80 : decode cX7_better 80 = .ok (.aload_n 0, 1) := by decide +kernel
theorem dX7_better_81 : decode cX7_better 81 = .ok (.getfield 16, 3) := by decide +kernel
theorem dX7_better_84 : decode cX7_better 84 = .ok (.iload 5, 2) := by decide +kernel
theorem dX7_better_86 : decode cX7_better 86 = .ok (.bipush 12, 2) := by decide +kernel
theorem dX7_better_88 : decode cX7_better 88 = .ok (.idiv, 1) := by decide +kernel
theorem dX7_better_89 : decode cX7_better 89 = .ok (.iload 5, 2) := by decide +kernel
theorem dX7_better_91 : decode cX7_better 91 = .ok (.bipush 12, 2) := by decide +kernel
theorem dX7_better_93 : decode cX7_better 93 = .ok (.irem, 1) := by decide +kernel
theorem dX7_better_94 : decode cX7_better 94 = .ok (.invokestatic 53, 3) := by decide +kernel
theorem dX7_better_97 : decode cX7_better 97 = .ok (.istore 6, 2) := by decide +kernel
theorem dX7_better_99 : decode cX7_better 99 = .ok (.aload_n 0, 1) := by decide +kernel
theorem dX7_better_100 : decode cX7_better 100 = .ok (.aload_n 0, 1) := by decide +kernel
theorem dX7_better_101 : decode cX7_better 101 = .ok (.getfield 16, 3) := by decide +kernel
theorem dX7_better_104 : decode cX7_better 104 = .ok (.aload_n 0, 1) := by decide +kernel
theorem dX7_better_105 : decode cX7_better 105 = .ok (.getfield 16, 3) := by decide +kernel
theorem dX7_better_108 : decode cX7_better 108 = .ok (.invokestatic 166, 3) := by decide +kernel
theorem dX7_better_111 : decode cX7_better 111 = .ok (.invokevirtual 170, 3) := by decide +kernel
theorem dX7_better_114 : decode cX7_better 114 = .ok (.aload_n 0, 1) := by decide +kernel
theorem dX7_better_115 : decode cX7_better 115 = .ok (.getfield 148, 3) := by decide +kernel
theorem dX7_better_118 : decode cX7_better 118 = .ok (.bipush (-4), 2) := by decide +kernel
theorem dX7_better_120 : decode cX7_better 120 = .ok (.if_icmp .eq 28, 3) := by decide +kernel
theorem dX7_better_123 : decode cX7_better 123 = .ok (.iload 6, 2) := by decide +kernel
theorem dX7_better_125 : decode cX7_better 125 = .ok (.ifCond .lt 23, 3) := by decide +kernel
theorem dX7_better_128 : decode cX7_better 128 = .ok (.iload 4, 2) := by decide +kernel
theorem dX7_better_130 : decode cX7_better 130 = .ok (.ifCond .eq 14, 3) := by decide +kernel
theorem dX7_better_133 : decode cX7_better 133 = .ok (.aload_n 0, 1) := by decide +kernel
theorem dX7_better_134 : decode cX7_better 134 = .ok (.getfield 151, 3) := by decide +kernel
theorem dX7_better_137 : decode cX7_better 137 = .ok (.bipush 100, 2) := by decide +kernel
theorem dX7_better_139 : decode cX7_better 139 = .ok (.iadd, 1) := by decide +kernel
theorem dX7_better_140 : decode cX7_better 140 = .ok (.iload_n 3, 1) := by decide +kernel
theorem dX7_better_141 : decode cX7_better 141 = .ok (.if_icmp .le 7, 3) := by decide +kernel
theorem dX7_better_144 : decode cX7_better 144 = .ok (.iconst 1, 1) := by decide +kernel
theorem dX7_better_145 : decode cX7_better 145 = .ok (.goto 4, 3) := by decide +kernel
theorem dX7_better_148 : decode cX7_better 148 = .ok (.iconst 0, 1) := by decide +kernel
theorem dX7_better_149 : decode cX7_better 149 = .ok (.istore 7, 2) := by decide +kernel
theorem dX7_better_151 : decode cX7_better 151 = .ok (.iload_n 2, 1) := by decide +kernel
theorem dX7_better_152 : decode cX7_better 152 = .ok (.bipush (-4), 2) := by decide +kernel
theorem dX7_better_154 : decode cX7_better 154 = .ok (.if_icmp .eq 8, 3) := by decide +kernel
theorem dX7_better_157 : decode cX7_better 157 = .ok (.iload 7, 2) := by decide +kernel
theorem dX7_better_159 : decode cX7_better 159 = .ok (.ifCond .eq 40, 3) := by decide +kernel
theorem dX7_better_162 : decode cX7_better 162 = .ok (.bipush 100, 2) := by decide +kernel
theorem dX7_better_164 : decode cX7_better 164 = .ok (.iload 5, 2) := by decide +kernel
theorem dX7_better_166 : decode cX7_better 166 = .ok (.bipush 12, 2) := by decide +kernel
theorem dX7_better_168 : decode cX7_better 168 = .ok (.idiv, 1) := by decide +kernel
theorem dX7_better_169 : decode cX7_better 169 = .ok (.imul, 1) := by decide +kernel
theorem dX7_better_170 : decode cX7_better 170 = .ok (.iload 5, 2) := by decide +kernel
theorem dX7_better_172 : decode cX7_better 172 = .ok (.bipush 12, 2) := by decide +kernel
theorem dX7_better_174 : decode cX7_better 174 = .ok (.irem, 1) := by decide +kernel
theorem dX7_better_175 : decode cX7_better 175 = .ok (.iadd, 1) := by decide +kernel
theorem dX7_better_176 : decode cX7_better 176 = .ok (.istore_n 2, 1) := by decide +kernel
theorem dX7_better_177 : decode cX7_better 177 = .ok (.aload_n 0, 1) := by decide +kernel
theorem dX7_better_178 : decode cX7_better 178 = .ok (.getfield 148, 3) := by decide +kernel
theorem dX7_better_181 : decode cX7_better 181 = .ok (.bipush (-4), 2) := by decide +kernel
theorem dX7_better_183 : decode cX7_better 183 = .ok (.if_icmp .ne 8, 3) := by decide +kernel
theorem dX7_better_186 : decode cX7_better 186 = .ok (.bipush (-4), 2) := by decide +kernel
theorem dX7_better_188 : decode cX7_better 188 = .ok (.goto 10, 3) := by decide +kernel
theorem dX7_better_191 : decode cX7_better 191 = .ok (.aload_n 0, 1) := by decide +kernel
theorem dX7_better_192 : decode cX7_better 192 = .ok (.getfield 151, 3) := by decide +kernel
theorem dX7_better_195 : decode cX7_better 195 = .ok (.bipush 100, 2) := by decide +kernel
theorem dX7_better_197 : decode cX7_better 197 = .ok (.iadd, 1) := by decide +kernel
theorem dX7_better_198 : decode cX7_better 198 = .ok (.istore_n 3, 1) := by decide +kernel
theorem dX7_better_199 : decode cX7_better 199 = .ok (.iload 4, 2) := by decide +kernel
theorem dX7_better_201 : decode cX7_better 201 = .ok (.ifCond .ne 12, 3) := by decide +kernel
theorem dX7_better_204 : decode cX7_better 204 = .ok (.aload_n 0, 1) := by decide +kernel
theorem dX7_better_205 : decode cX7_better 205 = .ok (.getfield 148, 3) := by decide +kernel
theorem dX7_better_208 : decode cX7_better 208 = .ok (.bipush (-4), 2) := by decide +kernel
theorem dX7_better_210 : decode cX7_better 210 = .ok (.if_icmp .eq 7, 3) := by decide +kernel
theorem dX7_better_213 : decode cX7_better 213 = .ok (.iconst 1, 1) := by decide +kernel
theorem dX7_better_214 : decode cX7_better 214 = .ok (.goto 4, 3) := by decide +kernel
theorem dX7_better_217 : decode cX7_better 217 = .ok (.iconst 0, 1) := by decide +kernel
theorem dX7_better_218 : decode cX7_better 218 = .ok (.istore 4, 2) := by decide +kernel
theorem dX7_better_220 : decode cX7_better 220 = .ok (.iinc 5 1, 3) := by decide +kernel
theorem dX7_better_223 : decode cX7_better 223 = .ok (.goto (-186), 3) := by decide +kernel
theorem dX7_better_226 : decode cX7_better 226 = .ok (.iload_n 1, 1) := by decide +kernel
theorem dX7_better_227 : decode cX7_better 227 = .ok (.ifCond .ne 7, 3) := by decide +kernel
theorem dX7_better_230 : decode cX7_better 230 = .ok (.iload_n 2, 1) := by decide +kernel
theorem dX7_better_231 : decode cX7_better 231 = .ok (.goto 4, 3) := by decide +kernel
theorem dX7_better_234 : decode cX7_better 234 = .ok (.iload_n 3, 1) := by decide +kernel
theorem dX7_better_235 : decode cX7_better 235 = .ok (.ireturn, 1) := by decide +kernel
theorem dX7_happens_0 : decode cX7_happens 0 = .ok (.iload_n 1, 1) := by decide +kernel
theorem dX7_happens_1 : decode cX7_happens 1 = .ok (.bipush 8, 2) := by decide +kernel
theorem dX7_happens_3 : decode cX7_happens 3 = .ok (.idiv, 1) := by decide +kernel
theorem dX7_happens_4 : decode cX7_happens 4 = .ok (.bipush 20, 2) := by decide +kernel
theorem dX7_happens_6 : decode cX7_happens 6 = .ok (.irem, 1) := by decide +kernel
theorem dX7_happens_7 : decode cX7_happens 7 = .ok (.istore_n 2, 1) := by decide +kernel
theorem dX7_happens_8 : decode cX7_happens 8 = .ok (.iload_n 1, 1) := by decide +kernel
theorem dX7_happens_9 : decode cX7_happens 9 = .ok (.sipush 256, 3) := by decide +kernel
theorem dX7_happens_12 : decode cX7_happens 12 = .ok (.idiv, 1) := by decide +kernel
theorem dX7_happens_13 : decode cX7_happens 13 = .ok (.bipush 12, 2) := by decide +kernel
theorem dX7_happens_15 : decode cX7_happens 15 = .ok (.irem, 1) := by decide +kernel
theorem dX7_happens_16 : decode cX7_happens 16 = .ok (.istore_n 3, 1) := by decide +kernel
theorem dX7_happens_17 : decode cX7_happens 17 = .ok (.aload_n 0, 1) := by decide +kernel
theorem dX7_happens_18 : decode cX7_happens 18 = .ok (.getfield 16, 3) := by decide +kernel
theorem dX7_happens_21 : decode cX7_happens 21 = .ok (.iload_n 2, 1) := by decide +kernel
theorem dX7_happens_22 : decode cX7_happens 22 = .ok (.iload_n 3, 1) := by decide +kernel
theorem dX7_happens_23 : decode cX7_happens 23 = .ok (.invokestatic 76, 3) := by decide +kernel
theorem dX7_happens_26 : decode cX7_happens 26 = .ok (.istore 4, 2) := by decide +kernel
theorem dX7_happens_28 : decode cX7_happens 28 = .ok (.iload 4, 2) := by decide +kernel
theorem dX7_happens_30 : decode cX7_happens 30 = .ok (.bipush (-4), 2) := by decide +kernel
theorem dX7_happens_32 : decode cX7_happens 32 = .ok (.if_icmp .ne 28, 3) := by decide +kernel
theorem dX7_happens_35 : decode cX7_happens 35 = .ok (.aload_n 0, 1) := by decide +kernel
theorem dX7_happens_36 : decode cX7_happens 36 = .ok (.getfield 16, 3) := by decide +kernel
theorem dX7_happens_39 : decode cX7_happens 39 = .ok (.iconst 0, 1) := by decide +kernel
theorem dX7_happens_40 : decode cX7_happens 40 = .ok (.iaload, 1) := by decide +kernel
theorem dX7_happens_41 : decode cX7_happens 41 = .ok (.bipush 14, 2) := by decide +kernel
theorem dX7_happens_43 : decode cX7_happens 43 = .ok (.if_icmp .ge 17, 3) := by decide +kernel
theorem dX7_happens_46 : decode cX7_happens 46 = .ok (.aload_n 0, 1) := by decide +kernel
theorem dX7_happens_47 : decode cX7_happens 47 = .ok (.getfield 16, 3) := by decide +kernel
theorem dX7_happens_50 : decode cX7_happens 50 = .ok (.iload_n 2, 1) := by decide +kernel
theorem dX7_happens_51 : decode cX7_happens 51 = .ok (.iload_n 3, 1) := by decide +kernel
theorem dX7_happens_52 : decode cX7_happens 52 = .ok (.invokestatic 53, 3) := by decide +kernel
theorem dX7_happens_55 : decode cX7_happens 55 = .ok (.istore 4, 2) := by decide +kernel
theorem dX7_happens_57 : decode cX7_happens 57 = .ok (.goto 29, 3) := by decide +kernel
theorem dX7_happens_60 : decode cX7_happens 60 = .ok (.iload 4, 2) := by decide +kernel
theorem dX7_happens_62 : decode cX7_happens 62 = .ok (.bipush (-4), 2) := by decide +kernel
theorem dX7_happens_64 : decode cX7_happens 64 = .ok (.if_icmp .eq 22, 3) := by decide +kernel
theorem dX7_happens_67 : decode cX7_happens 67 = .ok (.aload_n 0, 1) := by decide +kernel
theorem dX7_happens_68 : decode cX7_happens 68 = .ok (.getfield 16, 3) := by decide +kernel
theorem dX7_happens_71 : decode cX7_happens 71 = .ok (.iconst 0, 1) := by decide +kernel
theorem dX7_happens_72 : decode cX7_happens 72 = .ok (.iaload, 1) := by decide +kernel
theorem dX7_happens_73 : decode cX7_happens 73 = .ok (.iconst 1, 1) := by decide +kernel
theorem dX7_happens_74 : decode cX7_happens 74 = .ok (.if_icmp .le 12, 3) := by decide +kernel
theorem dX7_happens_77 : decode cX7_happens 77 = .ok (.aload_n 0, 1) := by decide +kernel
theorem dX7_happens_78 : decode cX7_happens 78 = .ok (.getfield 16, 3) := by decide +kernel
theorem dX7_happens_81 : decode cX7_happens 81 = .ok (.iload 4, 2) := by decide +kernel
theorem dX7_happens_83 : decode cX7_happens 83 = .ok (.invokestatic 103, 3) := by decide +kernel
theorem dX7_happens_86 : decode cX7_happens 86 = .ok (.return_, 1) := by decide +kernel
theorem dX7_day_0 : decode cX7_day 0 = .ok (.iload_n 1, 1) := by decide +kernel
theorem dX7_day_1 : decode cX7_day 1 = .ok (.iconst 0, 1) := by decide +kernel
theorem dX7_day_2 : decode cX7_day 2 = .ok (.sipush 9999, 3) := by decide +kernel
theorem dX7_day_5 : decode cX7_day 5 = .ok (.invokestatic 68, 3) := by decide +kernel
theorem dX7_day_8 : decode cX7_day 8 = .ok (.ifCond .eq 22, 3) := by decide +kernel
theorem dX7_day_11 : decode cX7_day 11 = .ok (.iload_n 2, 1) := by decide +kernel
theorem dX7_day_12 : decode cX7_day 12 = .ok (.iconst 1, 1) := by decide +kernel
theorem dX7_day_13 : decode cX7_day 13 = .ok (.bipush 20, 2) := by decide +kernel
theorem dX7_day_15 : decode cX7_day 15 = .ok (.invokestatic 68, 3) := by decide +kernel
theorem dX7_day_18 : decode cX7_day 18 = .ok (.ifCond .eq 12, 3) := by decide +kernel
theorem dX7_day_21 : decode cX7_day 21 = .ok (.iload_n 3, 1) := by decide +kernel
theorem dX7_day_22 : decode cX7_day 22 = .ok (.iconst 0, 1) := by decide +kernel
theorem dX7_day_23 : decode cX7_day 23 = .ok (.iconst 2, 1) := by decide +kernel
theorem dX7_day_24 : decode cX7_day 24 = .ok (.invokestatic 68, 3) := by decide +kernel
theorem dX7_day_27 : decode cX7_day 27 = .ok (.ifCond .ne 5, 3) := by decide +kernel
theorem dX7_day_30 : decode cX7_day 30 = .ok (.iconst (-1), 1) := by decide +kernel
theorem dX7_day_31 : decode cX7_day 31 = .ok (.ireturn, 1) := by decide +kernel
theorem dX7_day_32 : decode cX7_day 32 = .ok (.aload_n 0, 1) := by decide +kernel
theorem dX7_day_33 : decode cX7_day 33 = .ok (.getfield 7, 3) := by decide +kernel
theorem dX7_day_36 : decode cX7_day 36 = .ok (.iconst 0, 1) := by decide +kernel
theorem dX7_day_37 : decode cX7_day 37 = .ok (.aload_n 0, 1) := by decide +kernel
theorem dX7_day_38 : decode cX7_day 38 = .ok (.getfield 16, 3) := by decide +kernel
theorem dX7_day_41 : decode cX7_day 41 = .ok (.iconst 0, 1) := by decide +kernel
theorem dX7_day_42 : decode cX7_day 42 = .ok (.invokestatic 49, 3) := by decide +kernel
theorem dX7_day_45 : decode cX7_day 45 = .ok (.iconst 0, 1) := by decide +kernel
theorem dX7_day_46 : decode cX7_day 46 = .ok (.istore 4, 2) := by decide +kernel
theorem dX7_day_48 : decode cX7_day 48 = .ok (.iload 4, 2) := by decide +kernel
theorem dX7_day_50 : decode cX7_day 50 = .ok (.iload_n 2, 1) := by decide +kernel
theorem dX7_day_51 : decode cX7_day 51 = .ok (.if_icmp .ge 41, 3) := by decide +kernel
theorem dX7_day_54 : decode cX7_day 54 = .ok (.ldc2_w 189, 3) := by decide +kernel
theorem dX7_day_57 : decode cX7_day 57 = .ok (.iload_n 1, 1) := by decide +kernel
theorem dX7_day_58 : decode cX7_day 58 = .ok (.i2l, 1) := by decide +kernel
theorem dX7_day_59 : decode cX7_day 59 = .ok (.lmul, 1) := by decide +kernel
theorem dX7_day_60 : decode cX7_day 60 = .ok (.ldc2_w 191, 3) := by decide +kernel
theorem dX7_day_63 : decode cX7_day 63 = .ok (.iload 4, 2) := by decide +kernel
theorem dX7_day_65 : decode cX7_day 65 = .ok (.i2l, 1) := by decide +kernel
theorem dX7_day_66 : decode cX7_day 66 = .ok (.lmul, 1) := by decide +kernel
theorem dX7_day_67 : decode cX7_day 67 = .ok (.ladd, 1) := by decide +kernel
theorem dX7_day_68 : decode cX7_day 68 = .ok (.lconst 1, 1) := by decide +kernel
theorem dX7_day_69 : decode cX7_day 69 = .ok (.ladd, 1) := by decide +kernel
theorem dX7_day_70 : decode cX7_day 70 = .ok (.lstore 5, 2) := by decide +kernel
theorem dX7_day_72 : decode cX7_day 72 = .ok (.aload_n 0, 1) := by decide +kernel
theorem dX7_day_73 : decode cX7_day 73 = .ok (.lload 5, 2) := by decide +kernel
theorem dX7_day_75 : decode cX7_day 75 = .ok (.lload 5, 2) := by decide +kernel
theorem dX7_day_77 : decode cX7_day 77 = .ok (.lmul, 1) := by decide +kernel
theorem dX7_day_78 : decode cX7_day 78 = .ok (.ldc2_w 193, 3) := by decide +kernel
theorem dX7_day_81 : decode cX7_day 81 = .ok (.lrem, 1) := by decide +kernel
theorem dX7_day_82 : decode cX7_day 82 = .ok (.l2i, 1) := by decide +kernel
theorem dX7_day_83 : decode cX7_day 83 = .ok (.invokevirtual 195, 3) := by decide +kernel
theorem dX7_day_86 : decode cX7_day 86 = .ok (.iinc 4 1, 3) := by decide +kernel
theorem dX7_day_89 : decode cX7_day 89 = .ok (.goto (-41), 3) := by decide +kernel
theorem dX7_day_92 : decode cX7_day 92 = .ok (.iload_n 3, 1) := by decide +kernel
theorem dX7_day_93 : decode cX7_day 93 = .ok (.ifCond .ne 10, 3) := by decide +kernel
theorem dX7_day_96 : decode cX7_day 96 = .ok (.aload_n 0, 1) := by decide +kernel
theorem dX7_day_97 : decode cX7_day 97 = .ok (.getfield 16, 3) := by decide +kernel
theorem dX7_day_100 : decode cX7_day 100 = .ok (.iconst 0, 1) := by decide +kernel
theorem dX7_day_101 : decode cX7_day 101 = .ok (.iaload, 1) := by decide +kernel
theorem dX7_day_102 : decode cX7_day 102 = .ok (.ireturn, 1) := by decide +kernel
theorem dX7_day_103 : decode cX7_day 103 = .ok (.iload_n 3, 1) := by decide +kernel
theorem dX7_day_104 : decode cX7_day 104 = .ok (.iconst 1, 1) := by decide +kernel
theorem dX7_day_105 : decode cX7_day 105 = .ok (.if_icmp .ne 23, 3) := by decide +kernel
theorem dX7_day_108 : decode cX7_day 108 = .ok (.aload_n 0, 1) := by decide +kernel
theorem dX7_day_109 : decode cX7_day 109 = .ok (.aload_n 0, 1) := by decide +kernel
theorem dX7_day_110 : decode cX7_day 110 = .ok (.getfield 16, 3) := by decide +kernel
theorem dX7_day_113 : decode cX7_day 113 = .ok (.aload_n 0, 1) := by decide +kernel
theorem dX7_day_114 : decode cX7_day 114 = .ok (.getfield 16, 3) := by decide +kernel
theorem dX7_day_117 : decode cX7_day 117 = .ok (.invokestatic 166, 3) := by decide +kernel
theorem dX7_day_120 : decode cX7_day 120 = .ok (.invokevirtual 145, 3) := by decide +kernel
theorem dX7_day_123 : decode cX7_day 123 = .ok (.aload_n 0, 1) := by decide +kernel
theorem dX7_day_124 : decode cX7_day 124 = .ok (.getfield 136, 3) := by decide +kernel
theorem dX7_day_127 : decode cX7_day 127 = .ok (.ireturn, 1) := by decide +kernel
theorem dX7_day_128 : decode cX7_day 128 = .ok (.aload_n 0, 1) := by decide +kernel
theorem dX7_day_129 : decode cX7_day 129 = .ok (.aload_n 0, 1) := by decide +kernel
theorem dX7_day_130 : decode cX7_day 130 = .ok (.getfield 16, 3) := by decide +kernel
theorem dX7_day_133 : decode cX7_day 133 = .ok (.invokevirtual 182, 3) := by decide +kernel
theorem dX7_day_136 : decode cX7_day 136 = .ok (.aload_n 0, 1) := by decide +kernel
theorem dX7_day_137 : decode cX7_day 137 = .ok (.getfield 179, 3) := by decide +kernel
theorem dX7_day_140 : decode cX7_day 140 = .ok (.ireturn, 1) := by decide +kernel
theorem dX7_keep_0 : decode cX7_keep 0 = .ok (.aload_n 0, 1) := by decide +kernel
theorem dX7_keep_1 : decode cX7_keep 1 = .ok (.getfield 89, 3) := by decide +kernel
theorem dX7_keep_4 : decode cX7_keep 4 = .ok (.iconst 2, 1) := by decide +kernel
theorem dX7_keep_5 : decode cX7_keep 5 = .ok (.if_icmp .ne 6, 3) := by decide +kernel
theorem dX7_keep_8 : decode cX7_keep 8 = .ok (.bipush (-3), 2) := by decide +kernel
theorem dX7_keep_10 : decode cX7_keep 10 = .ok (.ireturn, 1) := by decide +kernel
theorem dX7_keep_11 : decode cX7_keep 11 = .ok (.aload_n 0, 1) := by decide +kernel
theorem dX7_keep_12 : decode cX7_keep 12 = .ok (.getfield 7, 3) := by decide +kernel
theorem dX7_keep_15 : decode cX7_keep 15 = .ok (.iconst 0, 1) := by decide +kernel
theorem dX7_keep_16 : decode cX7_keep 16 = .ok (.aload_n 0, 1) := by decide +kernel
theorem dX7_keep_17 : decode cX7_keep 17 = .ok (.getfield 22, 3) := by decide +kernel
theorem dX7_keep_20 : decode cX7_keep 20 = .ok (.bipush 30, 2) := by decide +kernel
theorem dX7_keep_22 : decode cX7_keep 22 = .ok (.aload_n 0, 1) := by decide +kernel
theorem dX7_keep_23 : decode cX7_keep 23 = .ok (.getfield 89, 3) := by decide +kernel
theorem dX7_keep_26 : decode cX7_keep 26 = .ok (.imul, 1) := by decide +kernel
theorem dX7_keep_27 : decode cX7_keep 27 = .ok (.invokestatic 49, 3) := by decide +kernel
theorem dX7_keep_30 : decode cX7_keep 30 = .ok (.aload_n 0, 1) := by decide +kernel
theorem dX7_keep_31 : decode cX7_keep 31 = .ok (.dup, 1) := by decide +kernel
theorem dX7_keep_32 : decode cX7_keep 32 = .ok (.getfield 89, 3) := by decide +kernel
theorem dX7_keep_35 : decode cX7_keep 35 = .ok (.iconst 1, 1) := by decide +kernel
theorem dX7_keep_36 : decode cX7_keep 36 = .ok (.iadd, 1) := by decide +kernel
theorem dX7_keep_37 : decode cX7_keep 37 = .ok (.putfield 89, 3) := by decide +kernel
theorem dX7_keep_40 : decode cX7_keep 40 = .ok (.aload_n 0, 1) := by decide +kernel
theorem dX7_keep_41 : decode cX7_keep 41 = .ok (.getfield 89, 3) := by decide +kernel
theorem dX7_keep_44 : decode cX7_keep 44 = .ok (.ireturn, 1) := by decide +kernel
theorem dX7_back_0 : decode cX7_back 0 = .ok (.aload_n 0, 1) := by decide +kernel
theorem dX7_back_1 : decode cX7_back 1 = .ok (.getfield 89, 3) := by decide +kernel
theorem dX7_back_4 : decode cX7_back 4 = .ok (.ifCond .ne 6, 3) := by decide +kernel
theorem dX7_back_7 : decode cX7_back 7 = .ok (.bipush (-2), 2) := by decide +kernel
theorem dX7_back_9 : decode cX7_back 9 = .ok (.ireturn, 1) := by decide +kernel
theorem dX7_back_10 : decode cX7_back 10 = .ok (.aload_n 0, 1) := by decide +kernel
theorem dX7_back_11 : decode cX7_back 11 = .ok (.dup, 1) := by decide +kernel
theorem dX7_back_12 : decode cX7_back 12 = .ok (.getfield 89, 3) := by decide +kernel
theorem dX7_back_15 : decode cX7_back 15 = .ok (.iconst 1, 1) := by decide +kernel
theorem dX7_back_16 : decode cX7_back 16 = .ok (.isub, 1) := by decide +kernel
theorem dX7_back_17 : decode cX7_back 17 = .ok (.putfield 89, 3) := by decide +kernel
theorem dX7_back_20 : decode cX7_back 20 = .ok (.aload_n 0, 1) := by decide +kernel
theorem dX7_back_21 : decode cX7_back 21 = .ok (.getfield 22, 3) := by decide +kernel
theorem dX7_back_24 : decode cX7_back 24 = .ok (.bipush 30, 2) := by decide +kernel
theorem dX7_back_26 : decode cX7_back 26 = .ok (.aload_n 0, 1) := by decide +kernel
theorem dX7_back_27 : decode cX7_back 27 = .ok (.getfield 89, 3) := by decide +kernel
theorem dX7_back_30 : decode cX7_back 30 = .ok (.imul, 1) := by decide +kernel
theorem dX7_back_31 : decode cX7_back 31 = .ok (.aload_n 0, 1) := by decide +kernel
theorem dX7_back_32 : decode cX7_back 32 = .ok (.getfield 7, 3) := by decide +kernel
theorem dX7_back_35 : decode cX7_back 35 = .ok (.iconst 0, 1) := by decide +kernel
theorem dX7_back_36 : decode cX7_back 36 = .ok (.invokestatic 49, 3) := by decide +kernel
theorem dX7_back_39 : decode cX7_back 39 = .ok (.aload_n 0, 1) := by decide +kernel
theorem dX7_back_40 : decode cX7_back 40 = .ok (.iconst 0, 1) := by decide +kernel
theorem dX7_back_41 : decode cX7_back 41 = .ok (.putfield 86, 3) := by decide +kernel
theorem dX7_back_44 : decode cX7_back 44 = .ok (.aload_n 0, 1) := by decide +kernel
theorem dX7_back_45 : decode cX7_back 45 = .ok (.getfield 89, 3) := by decide +kernel
theorem dX7_back_48 : decode cX7_back 48 = .ok (.ireturn, 1) := by decide +kernel
theorem dX7_count_0 : decode cX7_count 0 = .ok (.iload_n 1, 1) := by decide +kernel
theorem dX7_count_1 : decode cX7_count 1 = .ok (.tableswitch 64 0 4 #[35, 42, 49, 54, 59], 35) := by decide +kernel
theorem dX7_count_36 : decode cX7_count 36 = .ok (.aload_n 0, 1) := by decide +kernel
theorem dX7_count_37 : decode cX7_count 37 = .ok (.getfield 7, 3) := by decide +kernel
theorem dX7_count_40 : decode cX7_count 40 = .ok (.iconst 0, 1) := by decide +kernel
theorem dX7_count_41 : decode cX7_count 41 = .ok (.iaload, 1) := by decide +kernel
theorem dX7_count_42 : decode cX7_count 42 = .ok (.ireturn, 1) := by decide +kernel
theorem dX7_count_43 : decode cX7_count 43 = .ok (.aload_n 0, 1) := by decide +kernel
theorem dX7_count_44 : decode cX7_count 44 = .ok (.getfield 7, 3) := by decide +kernel
theorem dX7_count_47 : decode cX7_count 47 = .ok (.iconst 1, 1) := by decide +kernel
theorem dX7_count_48 : decode cX7_count 48 = .ok (.iaload, 1) := by decide +kernel
theorem dX7_count_49 : decode cX7_count 49 = .ok (.ireturn, 1) := by decide +kernel
theorem dX7_count_50 : decode cX7_count 50 = .ok (.aload_n 0, 1) := by decide +kernel
theorem dX7_count_51 : decode cX7_count 51 = .ok (.getfield 86, 3) := by decide +kernel
theorem dX7_count_54 : decode cX7_count 54 = .ok (.ireturn, 1) := by decide +kernel
theorem dX7_count_55 : decode cX7_count 55 = .ok (.aload_n 0, 1) := by decide +kernel
theorem dX7_count_56 : decode cX7_count 56 = .ok (.getfield 89, 3) := by decide +kernel
theorem dX7_count_59 : decode cX7_count 59 = .ok (.ireturn, 1) := by decide +kernel
theorem dX7_count_60 : decode cX7_count 60 = .ok (.aload_n 0, 1) := by decide +kernel
theorem dX7_count_61 : decode cX7_count 61 = .ok (.getfield 61, 3) := by decide +kernel
theorem dX7_count_64 : decode cX7_count 64 = .ok (.ireturn, 1) := by decide +kernel
theorem dX7_count_65 : decode cX7_count 65 = .ok (.iconst (-1), 1) := by decide +kernel
theorem dX7_count_66 : decode cX7_count 66 = .ok (.ireturn, 1) := by decide +kernel
end
section
theorem dL_law_0 : decode cL_law 0 = .ok (.new 7, 3) := by decide +kernel
theorem dL_law_3 : decode cL_law 3 = .ok (.dup, 1) := by decide +kernel
theorem dL_law_4 : decode cL_law 4 = .ok (.invokespecial 9, 3) := by decide +kernel
theorem dL_law_7 : decode cL_law 7 = .ok (.astore_n 1, 1) := by decide +kernel
theorem dL_law_8 : decode cL_law 8 = .ok (.new 10, 3) := by decide +kernel
theorem dL_law_11 : decode cL_law 11 = .ok (.dup, 1) := by decide +kernel
theorem dL_law_12 : decode cL_law 12 = .ok (.invokespecial 12, 3) := by decide +kernel
theorem dL_law_15 : decode cL_law 15 = .ok (.astore_n 2, 1) := by decide +kernel
theorem dL_law_16 : decode cL_law 16 = .ok (.iconst 0, 1) := by decide +kernel
theorem dL_law_17 : decode cL_law 17 = .ok (.istore_n 3, 1) := by decide +kernel
theorem dL_law_18 : decode cL_law 18 = .ok (.iload_n 3, 1) := by decide +kernel
theorem dL_law_19 : decode cL_law 19 = .ok (.aload_n 0, 1) := by decide +kernel
theorem dL_law_20 : decode cL_law 20 = .ok (.arraylength, 1) := by decide +kernel
theorem dL_law_21 : decode cL_law 21 = .ok (.iconst 4, 1) := by decide +kernel
theorem dL_law_22 : decode cL_law 22 = .ok (.isub, 1) := by decide +kernel
theorem dL_law_23 : decode cL_law 23 = .ok (.if_icmp .gt 796, 3) := by decide +kernel
theorem dL_law_26 : decode cL_law 26 = .ok (.aload_n 0, 1) := by decide +kernel
theorem dL_law_27 : decode cL_law 27 = .ok (.iload_n 3, 1) := by decide +kernel
theorem dL_law_28 : decode cL_law 28 = .ok (.iaload, 1) := by decide +kernel
theorem dL_law_29 : decode cL_law 29 = .ok (.bipush 31, 2) := by decide +kernel
theorem dL_law_31 : decode cL_law 31 = .ok (.iand, 1) := by decide +kernel
theorem dL_law_32 : decode cL_law 32 = .ok (.tableswitch 781 0 24 #[116, 139, 152, 165, 178, 211, 244, 267, 310, 343, 366, 379, 412, 455, 488, 521, 544, 577, 600, 623, 666, 689, 732, 745, 758], 116) := by decide +kernel
theorem dL_law_148 : decode cL_law 148 = .ok (.aload_n 1, 1) := by decide +kernel
theorem dL_law_149 : decode cL_law 149 = .ok (.aload_n 0, 1) := by decide +kernel
theorem dL_law_150 : decode cL_law 150 = .ok (.iload_n 3, 1) := by decide +kernel
theorem dL_law_151 : decode cL_law 151 = .ok (.iconst 1, 1) := by decide +kernel
theorem dL_law_152 : decode cL_law 152 = .ok (.iadd, 1) := by decide +kernel
theorem dL_law_153 : decode cL_law 153 = .ok (.iaload, 1) := by decide +kernel
theorem dL_law_154 : decode cL_law 154 = .ok (.invokevirtual 13, 3) := by decide +kernel
theorem dL_law_157 : decode cL_law 157 = .ok (.aload_n 2, 1) := by decide +kernel
theorem dL_law_158 : decode cL_law 158 = .ok (.aload_n 0, 1) := by decide +kernel
theorem dL_law_159 : decode cL_law 159 = .ok (.iload_n 3, 1) := by decide +kernel
theorem dL_law_160 : decode cL_law 160 = .ok (.iconst 1, 1) := by decide +kernel
theorem dL_law_161 : decode cL_law 161 = .ok (.iadd, 1) := by decide +kernel
theorem dL_law_162 : decode cL_law 162 = .ok (.iaload, 1) := by decide +kernel
theorem dL_law_163 : decode cL_law 163 = .ok (.invokevirtual 17, 3) := by decide +kernel
theorem dL_law_166 : decode cL_law 166 = .ok (.if_icmp .eq 647, 3) := by decide +kernel
theorem dL_law_169 : decode cL_law 169 = .ok (.iconst 0, 1) := by decide +kernel
theorem dL_law_170 : decode cL_law 170 = .ok (.ireturn, 1) := by decide +kernel
theorem dL_law_171 : decode cL_law 171 = .ok (.aload_n 1, 1) := by decide +kernel
theorem dL_law_172 : decode cL_law 172 = .ok (.invokevirtual 18, 3) := by decide +kernel
theorem dL_law_175 : decode cL_law 175 = .ok (.aload_n 2, 1) := by decide +kernel
theorem dL_law_176 : decode cL_law 176 = .ok (.invokevirtual 22, 3) := by decide +kernel
theorem dL_law_179 : decode cL_law 179 = .ok (.if_icmp .eq 634, 3) := by decide +kernel
theorem dL_law_182 : decode cL_law 182 = .ok (.iconst 0, 1) := by decide +kernel
theorem dL_law_183 : decode cL_law 183 = .ok (.ireturn, 1) := by decide +kernel
theorem dL_law_184 : decode cL_law 184 = .ok (.aload_n 1, 1) := by decide +kernel
theorem dL_law_185 : decode cL_law 185 = .ok (.invokevirtual 23, 3) := by decide +kernel
theorem dL_law_188 : decode cL_law 188 = .ok (.aload_n 2, 1) := by decide +kernel
theorem dL_law_189 : decode cL_law 189 = .ok (.invokevirtual 26, 3) := by decide +kernel
theorem dL_law_192 : decode cL_law 192 = .ok (.if_icmp .eq 621, 3) := by decide +kernel
theorem dL_law_195 : decode cL_law 195 = .ok (.iconst 0, 1) := by decide +kernel
theorem dL_law_196 : decode cL_law 196 = .ok (.ireturn, 1) := by decide +kernel
theorem dL_law_197 : decode cL_law 197 = .ok (.aload_n 1, 1) := by decide +kernel
theorem dL_law_198 : decode cL_law 198 = .ok (.invokevirtual 27, 3) := by decide +kernel
theorem dL_law_201 : decode cL_law 201 = .ok (.aload_n 2, 1) := by decide +kernel
theorem dL_law_202 : decode cL_law 202 = .ok (.invokevirtual 30, 3) := by decide +kernel
theorem dL_law_205 : decode cL_law 205 = .ok (.if_icmp .eq 608, 3) := by decide +kernel
theorem dL_law_208 : decode cL_law 208 = .ok (.iconst 0, 1) := by decide +kernel
theorem dL_law_209 : decode cL_law 209 = .ok (.ireturn, 1) := by decide +kernel
theorem dL_law_210 : decode cL_law 210 = .ok (.aload_n 1, 1) := by decide +kernel
theorem dL_law_211 : decode cL_law 211 = .ok (.aload_n 0, 1) := by decide +kernel
theorem dL_law_212 : decode cL_law 212 = .ok (.iload_n 3, 1) := by decide +kernel
theorem dL_law_213 : decode cL_law 213 = .ok (.iconst 1, 1) := by decide +kernel
theorem dL_law_214 : decode cL_law 214 = .ok (.iadd, 1) := by decide +kernel
theorem dL_law_215 : decode cL_law 215 = .ok (.iaload, 1) := by decide +kernel
theorem dL_law_216 : decode cL_law 216 = .ok (.aload_n 0, 1) := by decide +kernel
theorem dL_law_217 : decode cL_law 217 = .ok (.iload_n 3, 1) := by decide +kernel
theorem dL_law_218 : decode cL_law 218 = .ok (.iconst 2, 1) := by decide +kernel
theorem dL_law_219 : decode cL_law 219 = .ok (.iadd, 1) := by decide +kernel
theorem dL_law_220 : decode cL_law 220 = .ok (.iaload, 1) := by decide +kernel
theorem dL_law_221 : decode cL_law 221 = .ok (.invokevirtual 31, 3) := by decide +kernel
theorem dL_law_224 : decode cL_law 224 = .ok (.aload_n 2, 1) := by decide +kernel
theorem dL_law_225 : decode cL_law 225 = .ok (.aload_n 0, 1) := by decide +kernel
theorem dL_law_226 : decode cL_law 226 = .ok (.iload_n 3, 1) := by decide +kernel
theorem dL_law_227 : decode cL_law 227 = .ok (.iconst 1, 1) := by decide +kernel
theorem dL_law_228 : decode cL_law 228 = .ok (.iadd, 1) := by decide +kernel
theorem dL_law_229 : decode cL_law 229 = .ok (.iaload, 1) := by decide +kernel
theorem dL_law_230 : decode cL_law 230 = .ok (.aload_n 0, 1) := by decide +kernel
theorem dL_law_231 : decode cL_law 231 = .ok (.iload_n 3, 1) := by decide +kernel
theorem dL_law_232 : decode cL_law 232 = .ok (.iconst 2, 1) := by decide +kernel
theorem dL_law_233 : decode cL_law 233 = .ok (.iadd, 1) := by decide +kernel
theorem dL_law_234 : decode cL_law 234 = .ok (.iaload, 1) := by decide +kernel
theorem dL_law_235 : decode cL_law 235 = .ok (.invokevirtual 35, 3) := by decide +kernel
theorem dL_law_238 : decode cL_law 238 = .ok (.if_icmp .eq 575, 3) := by decide +kernel
theorem dL_law_241 : decode cL_law 241 = .ok (.iconst 0, 1) := by decide +kernel
theorem dL_law_242 : decode cL_law 242 = .ok (.ireturn, 1) := by decide +kernel
theorem dL_law_243 : decode cL_law 243 = .ok (.aload_n 1, 1) := by decide +kernel
theorem dL_law_244 : decode cL_law 244 = .ok (.aload_n 0, 1) := by decide +kernel
theorem dL_law_245 : decode cL_law 245 = .ok (.iload_n 3, 1) := by decide +kernel
theorem dL_law_246 : decode cL_law 246 = .ok (.iconst 1, 1) := by decide +kernel
theorem dL_law_247 : decode cL_law 247 = .ok (.iadd, 1) := by decide +kernel
theorem dL_law_248 : decode cL_law 248 = .ok (.iaload, 1) := by decide +kernel
theorem dL_law_249 : decode cL_law 249 = .ok (.aload_n 0, 1) := by decide +kernel
theorem dL_law_250 : decode cL_law 250 = .ok (.iload_n 3, 1) := by decide +kernel
theorem dL_law_251 : decode cL_law 251 = .ok (.iconst 2, 1) := by decide +kernel
theorem dL_law_252 : decode cL_law 252 = .ok (.iadd, 1) := by decide +kernel
theorem dL_law_253 : decode cL_law 253 = .ok (.iaload, 1) := by decide +kernel
theorem dL_law_254 : decode cL_law 254 = .ok (.invokevirtual 36, 3) := by decide +kernel
theorem dL_law_257 : decode cL_law 257 = .ok (.aload_n 2, 1) := by decide +kernel
theorem dL_law_258 : decode cL_law 258 = .ok (.aload_n 0, 1) := by decide +kernel
theorem dL_law_259 : decode cL_law 259 = .ok (.iload_n 3, 1) := by decide +kernel
theorem dL_law_260 : decode cL_law 260 = .ok (.iconst 1, 1) := by decide +kernel
theorem dL_law_261 : decode cL_law 261 = .ok (.iadd, 1) := by decide +kernel
theorem dL_law_262 : decode cL_law 262 = .ok (.iaload, 1) := by decide +kernel
theorem dL_law_263 : decode cL_law 263 = .ok (.aload_n 0, 1) := by decide +kernel
theorem dL_law_264 : decode cL_law 264 = .ok (.iload_n 3, 1) := by decide +kernel
theorem dL_law_265 : decode cL_law 265 = .ok (.iconst 2, 1) := by decide +kernel
theorem dL_law_266 : decode cL_law 266 = .ok (.iadd, 1) := by decide +kernel
theorem dL_law_267 : decode cL_law 267 = .ok (.iaload, 1) := by decide +kernel
theorem dL_law_268 : decode cL_law 268 = .ok (.invokevirtual 39, 3) := by decide +kernel
theorem dL_law_271 : decode cL_law 271 = .ok (.if_icmp .eq 542, 3) := by decide +kernel
theorem dL_law_274 : decode cL_law 274 = .ok (.iconst 0, 1) := by decide +kernel
theorem dL_law_275 : decode cL_law 275 = .ok (.ireturn, 1) := by decide +kernel
theorem dL_law_276 : decode cL_law 276 = .ok (.aload_n 1, 1) := by decide +kernel
theorem dL_law_277 : decode cL_law 277 = .ok (.aload_n 0, 1) := by decide +kernel
theorem dL_law_278 : decode cL_law 278 = .ok (.iload_n 3, 1) := by decide +kernel
theorem dL_law_279 : decode cL_law 279 = .ok (.iconst 1, 1) := by decide +kernel
theorem dL_law_280 : decode cL_law 280 = .ok (.iadd, 1) := by decide +kernel
theorem dL_law_281 : decode cL_law 281 = .ok (.iaload, 1) := by decide +kernel
theorem dL_law_282 : decode cL_law 282 = .ok (.invokevirtual 40, 3) := by decide +kernel
theorem dL_law_285 : decode cL_law 285 = .ok (.aload_n 2, 1) := by decide +kernel
theorem dL_law_286 : decode cL_law 286 = .ok (.aload_n 0, 1) := by decide +kernel
theorem dL_law_287 : decode cL_law 287 = .ok (.iload_n 3, 1) := by decide +kernel
theorem dL_law_288 : decode cL_law 288 = .ok (.iconst 1, 1) := by decide +kernel
theorem dL_law_289 : decode cL_law 289 = .ok (.iadd, 1) := by decide +kernel
theorem dL_law_290 : decode cL_law 290 = .ok (.iaload, 1) := by decide +kernel
theorem dL_law_291 : decode cL_law 291 = .ok (.invokevirtual 43, 3) := by decide +kernel
theorem dL_law_294 : decode cL_law 294 = .ok (.if_icmp .eq 519, 3) := by decide +kernel
theorem dL_law_297 : decode cL_law 297 = .ok (.iconst 0, 1) := by decide +kernel
theorem dL_law_298 : decode cL_law 298 = .ok (.ireturn, 1) := by decide +kernel
theorem dL_law_299 : decode cL_law 299 = .ok (.aload_n 1, 1) := by decide +kernel
theorem dL_law_300 : decode cL_law 300 = .ok (.aload_n 0, 1) := by decide +kernel
theorem dL_law_301 : decode cL_law 301 = .ok (.iload_n 3, 1) := by decide +kernel
theorem dL_law_302 : decode cL_law 302 = .ok (.iconst 1, 1) := by decide +kernel
theorem dL_law_303 : decode cL_law 303 = .ok (.iadd, 1) := by decide +kernel
end
section
theorem dL_law_304 : decode cL_law 304 = .ok (.iaload, 1) := by decide +kernel
theorem dL_law_305 : decode cL_law 305 = .ok (.aload_n 0, 1) := by decide +kernel
theorem dL_law_306 : decode cL_law 306 = .ok (.iload_n 3, 1) := by decide +kernel
theorem dL_law_307 : decode cL_law 307 = .ok (.iconst 2, 1) := by decide +kernel
theorem dL_law_308 : decode cL_law 308 = .ok (.iadd, 1) := by decide +kernel
theorem dL_law_309 : decode cL_law 309 = .ok (.iaload, 1) := by decide +kernel
theorem dL_law_310 : decode cL_law 310 = .ok (.aload_n 0, 1) := by decide +kernel
theorem dL_law_311 : decode cL_law 311 = .ok (.iload_n 3, 1) := by decide +kernel
theorem dL_law_312 : decode cL_law 312 = .ok (.iconst 3, 1) := by decide +kernel
theorem dL_law_313 : decode cL_law 313 = .ok (.iadd, 1) := by decide +kernel
theorem dL_law_314 : decode cL_law 314 = .ok (.iaload, 1) := by decide +kernel
theorem dL_law_315 : decode cL_law 315 = .ok (.invokevirtual 44, 3) := by decide +kernel
theorem dL_law_318 : decode cL_law 318 = .ok (.aload_n 2, 1) := by decide +kernel
theorem dL_law_319 : decode cL_law 319 = .ok (.aload_n 0, 1) := by decide +kernel
theorem dL_law_320 : decode cL_law 320 = .ok (.iload_n 3, 1) := by decide +kernel
theorem dL_law_321 : decode cL_law 321 = .ok (.iconst 1, 1) := by decide +kernel
theorem dL_law_322 : decode cL_law 322 = .ok (.iadd, 1) := by decide +kernel
theorem dL_law_323 : decode cL_law 323 = .ok (.iaload, 1) := by decide +kernel
theorem dL_law_324 : decode cL_law 324 = .ok (.aload_n 0, 1) := by decide +kernel
theorem dL_law_325 : decode cL_law 325 = .ok (.iload_n 3, 1) := by decide +kernel
theorem dL_law_326 : decode cL_law 326 = .ok (.iconst 2, 1) := by decide +kernel
theorem dL_law_327 : decode cL_law 327 = .ok (.iadd, 1) := by decide +kernel
theorem dL_law_328 : decode cL_law 328 = .ok (.iaload, 1) := by decide +kernel
theorem dL_law_329 : decode cL_law 329 = .ok (.aload_n 0, 1) := by decide +kernel
theorem dL_law_330 : decode cL_law 330 = .ok (.iload_n 3, 1) := by decide +kernel
theorem dL_law_331 : decode cL_law 331 = .ok (.iconst 3, 1) := by decide +kernel
theorem dL_law_332 : decode cL_law 332 = .ok (.iadd, 1) := by decide +kernel
theorem dL_law_333 : decode cL_law 333 = .ok (.iaload, 1) := by decide +kernel
theorem dL_law_334 : decode cL_law 334 = .ok (.invokevirtual 48, 3) := by decide +kernel
theorem dL_law_337 : decode cL_law 337 = .ok (.if_icmp .eq 476, 3) := by decide +kernel
theorem dL_law_340 : decode cL_law 340 = .ok (.iconst 0, 1) := by decide +kernel
theorem dL_law_341 : decode cL_law 341 = .ok (.ireturn, 1) := by decide +kernel
theorem dL_law_342 : decode cL_law 342 = .ok (.aload_n 1, 1) := by decide +kernel
theorem dL_law_343 : decode cL_law 343 = .ok (.aload_n 0, 1) := by decide +kernel
theorem dL_law_344 : decode cL_law 344 = .ok (.iload_n 3, 1) := by decide +kernel
theorem dL_law_345 : decode cL_law 345 = .ok (.iconst 1, 1) := by decide +kernel
theorem dL_law_346 : decode cL_law 346 = .ok (.iadd, 1) := by decide +kernel
theorem dL_law_347 : decode cL_law 347 = .ok (.iaload, 1) := by decide +kernel
theorem dL_law_348 : decode cL_law 348 = .ok (.aload_n 0, 1) := by decide +kernel
theorem dL_law_349 : decode cL_law 349 = .ok (.iload_n 3, 1) := by decide +kernel
theorem dL_law_350 : decode cL_law 350 = .ok (.iconst 2, 1) := by decide +kernel
theorem dL_law_351 : decode cL_law 351 = .ok (.iadd, 1) := by decide +kernel
theorem dL_law_352 : decode cL_law 352 = .ok (.iaload, 1) := by decide +kernel
theorem dL_law_353 : decode cL_law 353 = .ok (.invokevirtual 49, 3) := by decide +kernel
theorem dL_law_356 : decode cL_law 356 = .ok (.aload_n 2, 1) := by decide +kernel
theorem dL_law_357 : decode cL_law 357 = .ok (.aload_n 0, 1) := by decide +kernel
theorem dL_law_358 : decode cL_law 358 = .ok (.iload_n 3, 1) := by decide +kernel
theorem dL_law_359 : decode cL_law 359 = .ok (.iconst 1, 1) := by decide +kernel
theorem dL_law_360 : decode cL_law 360 = .ok (.iadd, 1) := by decide +kernel
theorem dL_law_361 : decode cL_law 361 = .ok (.iaload, 1) := by decide +kernel
theorem dL_law_362 : decode cL_law 362 = .ok (.aload_n 0, 1) := by decide +kernel
theorem dL_law_363 : decode cL_law 363 = .ok (.iload_n 3, 1) := by decide +kernel
theorem dL_law_364 : decode cL_law 364 = .ok (.iconst 2, 1) := by decide +kernel
theorem dL_law_365 : decode cL_law 365 = .ok (.iadd, 1) := by decide +kernel
theorem dL_law_366 : decode cL_law 366 = .ok (.iaload, 1) := by decide +kernel
theorem dL_law_367 : decode cL_law 367 = .ok (.invokevirtual 52, 3) := by decide +kernel
theorem dL_law_370 : decode cL_law 370 = .ok (.if_icmp .eq 443, 3) := by decide +kernel
theorem dL_law_373 : decode cL_law 373 = .ok (.iconst 0, 1) := by decide +kernel
theorem dL_law_374 : decode cL_law 374 = .ok (.ireturn, 1) := by decide +kernel
theorem dL_law_375 : decode cL_law 375 = .ok (.aload_n 1, 1) := by decide +kernel
theorem dL_law_376 : decode cL_law 376 = .ok (.aload_n 0, 1) := by decide +kernel
theorem dL_law_377 : decode cL_law 377 = .ok (.iload_n 3, 1) := by decide +kernel
theorem dL_law_378 : decode cL_law 378 = .ok (.iconst 1, 1) := by decide +kernel
theorem dL_law_379 : decode cL_law 379 = .ok (.iadd, 1) := by decide +kernel
theorem dL_law_380 : decode cL_law 380 = .ok (.iaload, 1) := by decide +kernel
theorem dL_law_381 : decode cL_law 381 = .ok (.invokevirtual 53, 3) := by decide +kernel
theorem dL_law_384 : decode cL_law 384 = .ok (.aload_n 2, 1) := by decide +kernel
theorem dL_law_385 : decode cL_law 385 = .ok (.aload_n 0, 1) := by decide +kernel
theorem dL_law_386 : decode cL_law 386 = .ok (.iload_n 3, 1) := by decide +kernel
theorem dL_law_387 : decode cL_law 387 = .ok (.iconst 1, 1) := by decide +kernel
theorem dL_law_388 : decode cL_law 388 = .ok (.iadd, 1) := by decide +kernel
theorem dL_law_389 : decode cL_law 389 = .ok (.iaload, 1) := by decide +kernel
theorem dL_law_390 : decode cL_law 390 = .ok (.invokevirtual 56, 3) := by decide +kernel
theorem dL_law_393 : decode cL_law 393 = .ok (.if_icmp .eq 420, 3) := by decide +kernel
theorem dL_law_396 : decode cL_law 396 = .ok (.iconst 0, 1) := by decide +kernel
theorem dL_law_397 : decode cL_law 397 = .ok (.ireturn, 1) := by decide +kernel
theorem dL_law_398 : decode cL_law 398 = .ok (.aload_n 1, 1) := by decide +kernel
theorem dL_law_399 : decode cL_law 399 = .ok (.invokevirtual 57, 3) := by decide +kernel
theorem dL_law_402 : decode cL_law 402 = .ok (.aload_n 2, 1) := by decide +kernel
theorem dL_law_403 : decode cL_law 403 = .ok (.invokevirtual 60, 3) := by decide +kernel
theorem dL_law_406 : decode cL_law 406 = .ok (.if_icmp .eq 407, 3) := by decide +kernel
theorem dL_law_409 : decode cL_law 409 = .ok (.iconst 0, 1) := by decide +kernel
theorem dL_law_410 : decode cL_law 410 = .ok (.ireturn, 1) := by decide +kernel
theorem dL_law_411 : decode cL_law 411 = .ok (.aload_n 1, 1) := by decide +kernel
theorem dL_law_412 : decode cL_law 412 = .ok (.aload_n 0, 1) := by decide +kernel
theorem dL_law_413 : decode cL_law 413 = .ok (.iload_n 3, 1) := by decide +kernel
theorem dL_law_414 : decode cL_law 414 = .ok (.iconst 1, 1) := by decide +kernel
theorem dL_law_415 : decode cL_law 415 = .ok (.iadd, 1) := by decide +kernel
theorem dL_law_416 : decode cL_law 416 = .ok (.iaload, 1) := by decide +kernel
theorem dL_law_417 : decode cL_law 417 = .ok (.aload_n 0, 1) := by decide +kernel
theorem dL_law_418 : decode cL_law 418 = .ok (.iload_n 3, 1) := by decide +kernel
theorem dL_law_419 : decode cL_law 419 = .ok (.iconst 2, 1) := by decide +kernel
theorem dL_law_420 : decode cL_law 420 = .ok (.iadd, 1) := by decide +kernel
theorem dL_law_421 : decode cL_law 421 = .ok (.iaload, 1) := by decide +kernel
theorem dL_law_422 : decode cL_law 422 = .ok (.invokevirtual 61, 3) := by decide +kernel
theorem dL_law_425 : decode cL_law 425 = .ok (.aload_n 2, 1) := by decide +kernel
theorem dL_law_426 : decode cL_law 426 = .ok (.aload_n 0, 1) := by decide +kernel
theorem dL_law_427 : decode cL_law 427 = .ok (.iload_n 3, 1) := by decide +kernel
theorem dL_law_428 : decode cL_law 428 = .ok (.iconst 1, 1) := by decide +kernel
theorem dL_law_429 : decode cL_law 429 = .ok (.iadd, 1) := by decide +kernel
theorem dL_law_430 : decode cL_law 430 = .ok (.iaload, 1) := by decide +kernel
theorem dL_law_431 : decode cL_law 431 = .ok (.aload_n 0, 1) := by decide +kernel
theorem dL_law_432 : decode cL_law 432 = .ok (.iload_n 3, 1) := by decide +kernel
theorem dL_law_433 : decode cL_law 433 = .ok (.iconst 2, 1) := by decide +kernel
theorem dL_law_434 : decode cL_law 434 = .ok (.iadd, 1) := by decide +kernel
theorem dL_law_435 : decode cL_law 435 = .ok (.iaload, 1) := by decide +kernel
theorem dL_law_436 : decode cL_law 436 = .ok (.invokevirtual 64, 3) := by decide +kernel
theorem dL_law_439 : decode cL_law 439 = .ok (.if_icmp .eq 374, 3) := by decide +kernel
theorem dL_law_442 : decode cL_law 442 = .ok (.iconst 0, 1) := by decide +kernel
theorem dL_law_443 : decode cL_law 443 = .ok (.ireturn, 1) := by decide +kernel
theorem dL_law_444 : decode cL_law 444 = .ok (.aload_n 1, 1) := by decide +kernel
theorem dL_law_445 : decode cL_law 445 = .ok (.aload_n 0, 1) := by decide +kernel
theorem dL_law_446 : decode cL_law 446 = .ok (.iload_n 3, 1) := by decide +kernel
theorem dL_law_447 : decode cL_law 447 = .ok (.iconst 1, 1) := by decide +kernel
theorem dL_law_448 : decode cL_law 448 = .ok (.iadd, 1) := by decide +kernel
theorem dL_law_449 : decode cL_law 449 = .ok (.iaload, 1) := by decide +kernel
theorem dL_law_450 : decode cL_law 450 = .ok (.aload_n 0, 1) := by decide +kernel
theorem dL_law_451 : decode cL_law 451 = .ok (.iload_n 3, 1) := by decide +kernel
theorem dL_law_452 : decode cL_law 452 = .ok (.iconst 2, 1) := by decide +kernel
theorem dL_law_453 : decode cL_law 453 = .ok (.iadd, 1) := by decide +kernel
theorem dL_law_454 : decode cL_law 454 = .ok (.iaload, 1) := by decide +kernel
theorem dL_law_455 : decode cL_law 455 = .ok (.aload_n 0, 1) := by decide +kernel
theorem dL_law_456 : decode cL_law 456 = .ok (.iload_n 3, 1) := by decide +kernel
theorem dL_law_457 : decode cL_law 457 = .ok (.iconst 3, 1) := by decide +kernel
theorem dL_law_458 : decode cL_law 458 = .ok (.iadd, 1) := by decide +kernel
theorem dL_law_459 : decode cL_law 459 = .ok (.iaload, 1) := by decide +kernel
theorem dL_law_460 : decode cL_law 460 = .ok (.invokevirtual 65, 3) := by decide +kernel
theorem dL_law_463 : decode cL_law 463 = .ok (.aload_n 2, 1) := by decide +kernel
theorem dL_law_464 : decode cL_law 464 = .ok (.aload_n 0, 1) := by decide +kernel
theorem dL_law_465 : decode cL_law 465 = .ok (.iload_n 3, 1) := by decide +kernel
theorem dL_law_466 : decode cL_law 466 = .ok (.iconst 1, 1) := by decide +kernel
theorem dL_law_467 : decode cL_law 467 = .ok (.iadd, 1) := by decide +kernel
theorem dL_law_468 : decode cL_law 468 = .ok (.iaload, 1) := by decide +kernel
theorem dL_law_469 : decode cL_law 469 = .ok (.aload_n 0, 1) := by decide +kernel
theorem dL_law_470 : decode cL_law 470 = .ok (.iload_n 3, 1) := by decide +kernel
theorem dL_law_471 : decode cL_law 471 = .ok (.iconst 2, 1) := by decide +kernel
end
section
theorem dL_law_472 : decode cL_law 472 = .ok (.iadd, 1) := by decide +kernel
theorem dL_law_473 : decode cL_law 473 = .ok (.iaload, 1) := by decide +kernel
theorem dL_law_474 : decode cL_law 474 = .ok (.aload_n 0, 1) := by decide +kernel
theorem dL_law_475 : decode cL_law 475 = .ok (.iload_n 3, 1) := by decide +kernel
theorem dL_law_476 : decode cL_law 476 = .ok (.iconst 3, 1) := by decide +kernel
theorem dL_law_477 : decode cL_law 477 = .ok (.iadd, 1) := by decide +kernel
theorem dL_law_478 : decode cL_law 478 = .ok (.iaload, 1) := by decide +kernel
theorem dL_law_479 : decode cL_law 479 = .ok (.invokevirtual 68, 3) := by decide +kernel
theorem dL_law_482 : decode cL_law 482 = .ok (.if_icmp .eq 331, 3) := by decide +kernel
theorem dL_law_485 : decode cL_law 485 = .ok (.iconst 0, 1) := by decide +kernel
theorem dL_law_486 : decode cL_law 486 = .ok (.ireturn, 1) := by decide +kernel
theorem dL_law_487 : decode cL_law 487 = .ok (.aload_n 1, 1) := by decide +kernel
theorem dL_law_488 : decode cL_law 488 = .ok (.aload_n 0, 1) := by decide +kernel
theorem dL_law_489 : decode cL_law 489 = .ok (.iload_n 3, 1) := by decide +kernel
theorem dL_law_490 : decode cL_law 490 = .ok (.iconst 1, 1) := by decide +kernel
theorem dL_law_491 : decode cL_law 491 = .ok (.iadd, 1) := by decide +kernel
theorem dL_law_492 : decode cL_law 492 = .ok (.iaload, 1) := by decide +kernel
theorem dL_law_493 : decode cL_law 493 = .ok (.aload_n 0, 1) := by decide +kernel
theorem dL_law_494 : decode cL_law 494 = .ok (.iload_n 3, 1) := by decide +kernel
theorem dL_law_495 : decode cL_law 495 = .ok (.iconst 2, 1) := by decide +kernel
theorem dL_law_496 : decode cL_law 496 = .ok (.iadd, 1) := by decide +kernel
theorem dL_law_497 : decode cL_law 497 = .ok (.iaload, 1) := by decide +kernel
theorem dL_law_498 : decode cL_law 498 = .ok (.invokevirtual 69, 3) := by decide +kernel
theorem dL_law_501 : decode cL_law 501 = .ok (.aload_n 2, 1) := by decide +kernel
theorem dL_law_502 : decode cL_law 502 = .ok (.aload_n 0, 1) := by decide +kernel
theorem dL_law_503 : decode cL_law 503 = .ok (.iload_n 3, 1) := by decide +kernel
theorem dL_law_504 : decode cL_law 504 = .ok (.iconst 1, 1) := by decide +kernel
theorem dL_law_505 : decode cL_law 505 = .ok (.iadd, 1) := by decide +kernel
theorem dL_law_506 : decode cL_law 506 = .ok (.iaload, 1) := by decide +kernel
theorem dL_law_507 : decode cL_law 507 = .ok (.aload_n 0, 1) := by decide +kernel
theorem dL_law_508 : decode cL_law 508 = .ok (.iload_n 3, 1) := by decide +kernel
theorem dL_law_509 : decode cL_law 509 = .ok (.iconst 2, 1) := by decide +kernel
theorem dL_law_510 : decode cL_law 510 = .ok (.iadd, 1) := by decide +kernel
theorem dL_law_511 : decode cL_law 511 = .ok (.iaload, 1) := by decide +kernel
theorem dL_law_512 : decode cL_law 512 = .ok (.invokevirtual 72, 3) := by decide +kernel
theorem dL_law_515 : decode cL_law 515 = .ok (.if_icmp .eq 298, 3) := by decide +kernel
theorem dL_law_518 : decode cL_law 518 = .ok (.iconst 0, 1) := by decide +kernel
theorem dL_law_519 : decode cL_law 519 = .ok (.ireturn, 1) := by decide +kernel
theorem dL_law_520 : decode cL_law 520 = .ok (.aload_n 1, 1) := by decide +kernel
theorem dL_law_521 : decode cL_law 521 = .ok (.aload_n 0, 1) := by decide +kernel
theorem dL_law_522 : decode cL_law 522 = .ok (.iload_n 3, 1) := by decide +kernel
theorem dL_law_523 : decode cL_law 523 = .ok (.iconst 1, 1) := by decide +kernel
theorem dL_law_524 : decode cL_law 524 = .ok (.iadd, 1) := by decide +kernel
theorem dL_law_525 : decode cL_law 525 = .ok (.iaload, 1) := by decide +kernel
theorem dL_law_526 : decode cL_law 526 = .ok (.aload_n 0, 1) := by decide +kernel
theorem dL_law_527 : decode cL_law 527 = .ok (.iload_n 3, 1) := by decide +kernel
theorem dL_law_528 : decode cL_law 528 = .ok (.iconst 2, 1) := by decide +kernel
theorem dL_law_529 : decode cL_law 529 = .ok (.iadd, 1) := by decide +kernel
theorem dL_law_530 : decode cL_law 530 = .ok (.iaload, 1) := by decide +kernel
theorem dL_law_531 : decode cL_law 531 = .ok (.invokevirtual 73, 3) := by decide +kernel
theorem dL_law_534 : decode cL_law 534 = .ok (.aload_n 2, 1) := by decide +kernel
theorem dL_law_535 : decode cL_law 535 = .ok (.aload_n 0, 1) := by decide +kernel
theorem dL_law_536 : decode cL_law 536 = .ok (.iload_n 3, 1) := by decide +kernel
theorem dL_law_537 : decode cL_law 537 = .ok (.iconst 1, 1) := by decide +kernel
theorem dL_law_538 : decode cL_law 538 = .ok (.iadd, 1) := by decide +kernel
theorem dL_law_539 : decode cL_law 539 = .ok (.iaload, 1) := by decide +kernel
theorem dL_law_540 : decode cL_law 540 = .ok (.aload_n 0, 1) := by decide +kernel
theorem dL_law_541 : decode cL_law 541 = .ok (.iload_n 3, 1) := by decide +kernel
theorem dL_law_542 : decode cL_law 542 = .ok (.iconst 2, 1) := by decide +kernel
theorem dL_law_543 : decode cL_law 543 = .ok (.iadd, 1) := by decide +kernel
theorem dL_law_544 : decode cL_law 544 = .ok (.iaload, 1) := by decide +kernel
theorem dL_law_545 : decode cL_law 545 = .ok (.invokevirtual 76, 3) := by decide +kernel
theorem dL_law_548 : decode cL_law 548 = .ok (.if_icmp .eq 265, 3) := by decide +kernel
theorem dL_law_551 : decode cL_law 551 = .ok (.iconst 0, 1) := by decide +kernel
theorem dL_law_552 : decode cL_law 552 = .ok (.ireturn, 1) := by decide +kernel
theorem dL_law_553 : decode cL_law 553 = .ok (.aload_n 1, 1) := by decide +kernel
theorem dL_law_554 : decode cL_law 554 = .ok (.aload_n 0, 1) := by decide +kernel
theorem dL_law_555 : decode cL_law 555 = .ok (.iload_n 3, 1) := by decide +kernel
theorem dL_law_556 : decode cL_law 556 = .ok (.iconst 1, 1) := by decide +kernel
theorem dL_law_557 : decode cL_law 557 = .ok (.iadd, 1) := by decide +kernel
theorem dL_law_558 : decode cL_law 558 = .ok (.iaload, 1) := by decide +kernel
theorem dL_law_559 : decode cL_law 559 = .ok (.invokevirtual 77, 3) := by decide +kernel
theorem dL_law_562 : decode cL_law 562 = .ok (.aload_n 2, 1) := by decide +kernel
theorem dL_law_563 : decode cL_law 563 = .ok (.aload_n 0, 1) := by decide +kernel
theorem dL_law_564 : decode cL_law 564 = .ok (.iload_n 3, 1) := by decide +kernel
theorem dL_law_565 : decode cL_law 565 = .ok (.iconst 1, 1) := by decide +kernel
theorem dL_law_566 : decode cL_law 566 = .ok (.iadd, 1) := by decide +kernel
theorem dL_law_567 : decode cL_law 567 = .ok (.iaload, 1) := by decide +kernel
theorem dL_law_568 : decode cL_law 568 = .ok (.invokevirtual 80, 3) := by decide +kernel
theorem dL_law_571 : decode cL_law 571 = .ok (.if_icmp .eq 242, 3) := by decide +kernel
theorem dL_law_574 : decode cL_law 574 = .ok (.iconst 0, 1) := by decide +kernel
theorem dL_law_575 : decode cL_law 575 = .ok (.ireturn, 1) := by decide +kernel
theorem dL_law_576 : decode cL_law 576 = .ok (.aload_n 1, 1) := by decide +kernel
theorem dL_law_577 : decode cL_law 577 = .ok (.aload_n 0, 1) := by decide +kernel
theorem dL_law_578 : decode cL_law 578 = .ok (.iload_n 3, 1) := by decide +kernel
theorem dL_law_579 : decode cL_law 579 = .ok (.iconst 1, 1) := by decide +kernel
theorem dL_law_580 : decode cL_law 580 = .ok (.iadd, 1) := by decide +kernel
theorem dL_law_581 : decode cL_law 581 = .ok (.iaload, 1) := by decide +kernel
theorem dL_law_582 : decode cL_law 582 = .ok (.aload_n 0, 1) := by decide +kernel
theorem dL_law_583 : decode cL_law 583 = .ok (.iload_n 3, 1) := by decide +kernel
theorem dL_law_584 : decode cL_law 584 = .ok (.iconst 2, 1) := by decide +kernel
theorem dL_law_585 : decode cL_law 585 = .ok (.iadd, 1) := by decide +kernel
theorem dL_law_586 : decode cL_law 586 = .ok (.iaload, 1) := by decide +kernel
theorem dL_law_587 : decode cL_law 587 = .ok (.invokevirtual 81, 3) := by decide +kernel
theorem dL_law_590 : decode cL_law 590 = .ok (.aload_n 2, 1) := by decide +kernel
theorem dL_law_591 : decode cL_law 591 = .ok (.aload_n 0, 1) := by decide +kernel
theorem dL_law_592 : decode cL_law 592 = .ok (.iload_n 3, 1) := by decide +kernel
theorem dL_law_593 : decode cL_law 593 = .ok (.iconst 1, 1) := by decide +kernel
theorem dL_law_594 : decode cL_law 594 = .ok (.iadd, 1) := by decide +kernel
theorem dL_law_595 : decode cL_law 595 = .ok (.iaload, 1) := by decide +kernel
theorem dL_law_596 : decode cL_law 596 = .ok (.aload_n 0, 1) := by decide +kernel
theorem dL_law_597 : decode cL_law 597 = .ok (.iload_n 3, 1) := by decide +kernel
theorem dL_law_598 : decode cL_law 598 = .ok (.iconst 2, 1) := by decide +kernel
theorem dL_law_599 : decode cL_law 599 = .ok (.iadd, 1) := by decide +kernel
theorem dL_law_600 : decode cL_law 600 = .ok (.iaload, 1) := by decide +kernel
theorem dL_law_601 : decode cL_law 601 = .ok (.invokevirtual 84, 3) := by decide +kernel
theorem dL_law_604 : decode cL_law 604 = .ok (.if_icmp .eq 209, 3) := by decide +kernel
theorem dL_law_607 : decode cL_law 607 = .ok (.iconst 0, 1) := by decide +kernel
theorem dL_law_608 : decode cL_law 608 = .ok (.ireturn, 1) := by decide +kernel
theorem dL_law_609 : decode cL_law 609 = .ok (.aload_n 1, 1) := by decide +kernel
theorem dL_law_610 : decode cL_law 610 = .ok (.aload_n 0, 1) := by decide +kernel
theorem dL_law_611 : decode cL_law 611 = .ok (.iload_n 3, 1) := by decide +kernel
theorem dL_law_612 : decode cL_law 612 = .ok (.iconst 1, 1) := by decide +kernel
theorem dL_law_613 : decode cL_law 613 = .ok (.iadd, 1) := by decide +kernel
theorem dL_law_614 : decode cL_law 614 = .ok (.iaload, 1) := by decide +kernel
theorem dL_law_615 : decode cL_law 615 = .ok (.invokevirtual 85, 3) := by decide +kernel
theorem dL_law_618 : decode cL_law 618 = .ok (.aload_n 2, 1) := by decide +kernel
theorem dL_law_619 : decode cL_law 619 = .ok (.aload_n 0, 1) := by decide +kernel
theorem dL_law_620 : decode cL_law 620 = .ok (.iload_n 3, 1) := by decide +kernel
theorem dL_law_621 : decode cL_law 621 = .ok (.iconst 1, 1) := by decide +kernel
theorem dL_law_622 : decode cL_law 622 = .ok (.iadd, 1) := by decide +kernel
theorem dL_law_623 : decode cL_law 623 = .ok (.iaload, 1) := by decide +kernel
theorem dL_law_624 : decode cL_law 624 = .ok (.invokevirtual 88, 3) := by decide +kernel
theorem dL_law_627 : decode cL_law 627 = .ok (.if_icmp .eq 186, 3) := by decide +kernel
theorem dL_law_630 : decode cL_law 630 = .ok (.iconst 0, 1) := by decide +kernel
theorem dL_law_631 : decode cL_law 631 = .ok (.ireturn, 1) := by decide +kernel
theorem dL_law_632 : decode cL_law 632 = .ok (.aload_n 1, 1) := by decide +kernel
theorem dL_law_633 : decode cL_law 633 = .ok (.aload_n 0, 1) := by decide +kernel
theorem dL_law_634 : decode cL_law 634 = .ok (.iload_n 3, 1) := by decide +kernel
theorem dL_law_635 : decode cL_law 635 = .ok (.iconst 1, 1) := by decide +kernel
theorem dL_law_636 : decode cL_law 636 = .ok (.iadd, 1) := by decide +kernel
theorem dL_law_637 : decode cL_law 637 = .ok (.iaload, 1) := by decide +kernel
theorem dL_law_638 : decode cL_law 638 = .ok (.invokevirtual 89, 3) := by decide +kernel
theorem dL_law_641 : decode cL_law 641 = .ok (.aload_n 2, 1) := by decide +kernel
theorem dL_law_642 : decode cL_law 642 = .ok (.aload_n 0, 1) := by decide +kernel
theorem dL_law_643 : decode cL_law 643 = .ok (.iload_n 3, 1) := by decide +kernel
end
section
theorem dL_law_644 : decode cL_law 644 = .ok (.iconst 1, 1) := by decide +kernel
theorem dL_law_645 : decode cL_law 645 = .ok (.iadd, 1) := by decide +kernel
theorem dL_law_646 : decode cL_law 646 = .ok (.iaload, 1) := by decide +kernel
theorem dL_law_647 : decode cL_law 647 = .ok (.invokevirtual 92, 3) := by decide +kernel
theorem dL_law_650 : decode cL_law 650 = .ok (.if_icmp .eq 163, 3) := by decide +kernel
theorem dL_law_653 : decode cL_law 653 = .ok (.iconst 0, 1) := by decide +kernel
theorem dL_law_654 : decode cL_law 654 = .ok (.ireturn, 1) := by decide +kernel
theorem dL_law_655 : decode cL_law 655 = .ok (.aload_n 1, 1) := by decide +kernel
theorem dL_law_656 : decode cL_law 656 = .ok (.aload_n 0, 1) := by decide +kernel
theorem dL_law_657 : decode cL_law 657 = .ok (.iload_n 3, 1) := by decide +kernel
theorem dL_law_658 : decode cL_law 658 = .ok (.iconst 1, 1) := by decide +kernel
theorem dL_law_659 : decode cL_law 659 = .ok (.iadd, 1) := by decide +kernel
theorem dL_law_660 : decode cL_law 660 = .ok (.iaload, 1) := by decide +kernel
theorem dL_law_661 : decode cL_law 661 = .ok (.aload_n 0, 1) := by decide +kernel
theorem dL_law_662 : decode cL_law 662 = .ok (.iload_n 3, 1) := by decide +kernel
theorem dL_law_663 : decode cL_law 663 = .ok (.iconst 2, 1) := by decide +kernel
theorem dL_law_664 : decode cL_law 664 = .ok (.iadd, 1) := by decide +kernel
theorem dL_law_665 : decode cL_law 665 = .ok (.iaload, 1) := by decide +kernel
theorem dL_law_666 : decode cL_law 666 = .ok (.aload_n 0, 1) := by decide +kernel
theorem dL_law_667 : decode cL_law 667 = .ok (.iload_n 3, 1) := by decide +kernel
theorem dL_law_668 : decode cL_law 668 = .ok (.iconst 3, 1) := by decide +kernel
theorem dL_law_669 : decode cL_law 669 = .ok (.iadd, 1) := by decide +kernel
theorem dL_law_670 : decode cL_law 670 = .ok (.iaload, 1) := by decide +kernel
theorem dL_law_671 : decode cL_law 671 = .ok (.invokevirtual 93, 3) := by decide +kernel
theorem dL_law_674 : decode cL_law 674 = .ok (.aload_n 2, 1) := by decide +kernel
theorem dL_law_675 : decode cL_law 675 = .ok (.aload_n 0, 1) := by decide +kernel
theorem dL_law_676 : decode cL_law 676 = .ok (.iload_n 3, 1) := by decide +kernel
theorem dL_law_677 : decode cL_law 677 = .ok (.iconst 1, 1) := by decide +kernel
theorem dL_law_678 : decode cL_law 678 = .ok (.iadd, 1) := by decide +kernel
theorem dL_law_679 : decode cL_law 679 = .ok (.iaload, 1) := by decide +kernel
theorem dL_law_680 : decode cL_law 680 = .ok (.aload_n 0, 1) := by decide +kernel
theorem dL_law_681 : decode cL_law 681 = .ok (.iload_n 3, 1) := by decide +kernel
theorem dL_law_682 : decode cL_law 682 = .ok (.iconst 2, 1) := by decide +kernel
theorem dL_law_683 : decode cL_law 683 = .ok (.iadd, 1) := by decide +kernel
theorem dL_law_684 : decode cL_law 684 = .ok (.iaload, 1) := by decide +kernel
theorem dL_law_685 : decode cL_law 685 = .ok (.aload_n 0, 1) := by decide +kernel
theorem dL_law_686 : decode cL_law 686 = .ok (.iload_n 3, 1) := by decide +kernel
theorem dL_law_687 : decode cL_law 687 = .ok (.iconst 3, 1) := by decide +kernel
theorem dL_law_688 : decode cL_law 688 = .ok (.iadd, 1) := by decide +kernel
theorem dL_law_689 : decode cL_law 689 = .ok (.iaload, 1) := by decide +kernel
theorem dL_law_690 : decode cL_law 690 = .ok (.invokevirtual 96, 3) := by decide +kernel
theorem dL_law_693 : decode cL_law 693 = .ok (.if_icmp .eq 120, 3) := by decide +kernel
theorem dL_law_696 : decode cL_law 696 = .ok (.iconst 0, 1) := by decide +kernel
theorem dL_law_697 : decode cL_law 697 = .ok (.ireturn, 1) := by decide +kernel
theorem dL_law_698 : decode cL_law 698 = .ok (.aload_n 1, 1) := by decide +kernel
theorem dL_law_699 : decode cL_law 699 = .ok (.aload_n 0, 1) := by decide +kernel
theorem dL_law_700 : decode cL_law 700 = .ok (.iload_n 3, 1) := by decide +kernel
theorem dL_law_701 : decode cL_law 701 = .ok (.iconst 1, 1) := by decide +kernel
theorem dL_law_702 : decode cL_law 702 = .ok (.iadd, 1) := by decide +kernel
theorem dL_law_703 : decode cL_law 703 = .ok (.iaload, 1) := by decide +kernel
theorem dL_law_704 : decode cL_law 704 = .ok (.invokevirtual 97, 3) := by decide +kernel
theorem dL_law_707 : decode cL_law 707 = .ok (.aload_n 2, 1) := by decide +kernel
theorem dL_law_708 : decode cL_law 708 = .ok (.aload_n 0, 1) := by decide +kernel
theorem dL_law_709 : decode cL_law 709 = .ok (.iload_n 3, 1) := by decide +kernel
theorem dL_law_710 : decode cL_law 710 = .ok (.iconst 1, 1) := by decide +kernel
theorem dL_law_711 : decode cL_law 711 = .ok (.iadd, 1) := by decide +kernel
theorem dL_law_712 : decode cL_law 712 = .ok (.iaload, 1) := by decide +kernel
theorem dL_law_713 : decode cL_law 713 = .ok (.invokevirtual 100, 3) := by decide +kernel
theorem dL_law_716 : decode cL_law 716 = .ok (.if_icmp .eq 97, 3) := by decide +kernel
theorem dL_law_719 : decode cL_law 719 = .ok (.iconst 0, 1) := by decide +kernel
theorem dL_law_720 : decode cL_law 720 = .ok (.ireturn, 1) := by decide +kernel
theorem dL_law_721 : decode cL_law 721 = .ok (.aload_n 1, 1) := by decide +kernel
theorem dL_law_722 : decode cL_law 722 = .ok (.aload_n 0, 1) := by decide +kernel
theorem dL_law_723 : decode cL_law 723 = .ok (.iload_n 3, 1) := by decide +kernel
theorem dL_law_724 : decode cL_law 724 = .ok (.iconst 1, 1) := by decide +kernel
theorem dL_law_725 : decode cL_law 725 = .ok (.iadd, 1) := by decide +kernel
theorem dL_law_726 : decode cL_law 726 = .ok (.iaload, 1) := by decide +kernel
theorem dL_law_727 : decode cL_law 727 = .ok (.aload_n 0, 1) := by decide +kernel
theorem dL_law_728 : decode cL_law 728 = .ok (.iload_n 3, 1) := by decide +kernel
theorem dL_law_729 : decode cL_law 729 = .ok (.iconst 2, 1) := by decide +kernel
theorem dL_law_730 : decode cL_law 730 = .ok (.iadd, 1) := by decide +kernel
theorem dL_law_731 : decode cL_law 731 = .ok (.iaload, 1) := by decide +kernel
theorem dL_law_732 : decode cL_law 732 = .ok (.aload_n 0, 1) := by decide +kernel
theorem dL_law_733 : decode cL_law 733 = .ok (.iload_n 3, 1) := by decide +kernel
theorem dL_law_734 : decode cL_law 734 = .ok (.iconst 3, 1) := by decide +kernel
theorem dL_law_735 : decode cL_law 735 = .ok (.iadd, 1) := by decide +kernel
theorem dL_law_736 : decode cL_law 736 = .ok (.iaload, 1) := by decide +kernel
theorem dL_law_737 : decode cL_law 737 = .ok (.invokevirtual 101, 3) := by decide +kernel
theorem dL_law_740 : decode cL_law 740 = .ok (.aload_n 2, 1) := by decide +kernel
theorem dL_law_741 : decode cL_law 741 = .ok (.aload_n 0, 1) := by decide +kernel
theorem dL_law_742 : decode cL_law 742 = .ok (.iload_n 3, 1) := by decide +kernel
theorem dL_law_743 : decode cL_law 743 = .ok (.iconst 1, 1) := by decide +kernel
theorem dL_law_744 : decode cL_law 744 = .ok (.iadd, 1) := by decide +kernel
theorem dL_law_745 : decode cL_law 745 = .ok (.iaload, 1) := by decide +kernel
theorem dL_law_746 : decode cL_law 746 = .ok (.aload_n 0, 1) := by decide +kernel
theorem dL_law_747 : decode cL_law 747 = .ok (.iload_n 3, 1) := by decide +kernel
theorem dL_law_748 : decode cL_law 748 = .ok (.iconst 2, 1) := by decide +kernel
theorem dL_law_749 : decode cL_law 749 = .ok (.iadd, 1) := by decide +kernel
theorem dL_law_750 : decode cL_law 750 = .ok (.iaload, 1) := by decide +kernel
theorem dL_law_751 : decode cL_law 751 = .ok (.aload_n 0, 1) := by decide +kernel
theorem dL_law_752 : decode cL_law 752 = .ok (.iload_n 3, 1) := by decide +kernel
theorem dL_law_753 : decode cL_law 753 = .ok (.iconst 3, 1) := by decide +kernel
theorem dL_law_754 : decode cL_law 754 = .ok (.iadd, 1) := by decide +kernel
theorem dL_law_755 : decode cL_law 755 = .ok (.iaload, 1) := by decide +kernel
theorem dL_law_756 : decode cL_law 756 = .ok (.invokevirtual 104, 3) := by decide +kernel
theorem dL_law_759 : decode cL_law 759 = .ok (.if_icmp .eq 54, 3) := by decide +kernel
theorem dL_law_762 : decode cL_law 762 = .ok (.iconst 0, 1) := by decide +kernel
theorem dL_law_763 : decode cL_law 763 = .ok (.ireturn, 1) := by decide +kernel
theorem dL_law_764 : decode cL_law 764 = .ok (.aload_n 1, 1) := by decide +kernel
theorem dL_law_765 : decode cL_law 765 = .ok (.invokevirtual 105, 3) := by decide +kernel
theorem dL_law_768 : decode cL_law 768 = .ok (.aload_n 2, 1) := by decide +kernel
theorem dL_law_769 : decode cL_law 769 = .ok (.invokevirtual 108, 3) := by decide +kernel
theorem dL_law_772 : decode cL_law 772 = .ok (.if_icmp .eq 41, 3) := by decide +kernel
theorem dL_law_775 : decode cL_law 775 = .ok (.iconst 0, 1) := by decide +kernel
theorem dL_law_776 : decode cL_law 776 = .ok (.ireturn, 1) := by decide +kernel
theorem dL_law_777 : decode cL_law 777 = .ok (.aload_n 1, 1) := by decide +kernel
theorem dL_law_778 : decode cL_law 778 = .ok (.invokevirtual 109, 3) := by decide +kernel
theorem dL_law_781 : decode cL_law 781 = .ok (.aload_n 2, 1) := by decide +kernel
theorem dL_law_782 : decode cL_law 782 = .ok (.invokevirtual 112, 3) := by decide +kernel
theorem dL_law_785 : decode cL_law 785 = .ok (.if_icmp .eq 28, 3) := by decide +kernel
theorem dL_law_788 : decode cL_law 788 = .ok (.iconst 0, 1) := by decide +kernel
theorem dL_law_789 : decode cL_law 789 = .ok (.ireturn, 1) := by decide +kernel
theorem dL_law_790 : decode cL_law 790 = .ok (.aload_n 1, 1) := by decide +kernel
theorem dL_law_791 : decode cL_law 791 = .ok (.aload_n 0, 1) := by decide +kernel
theorem dL_law_792 : decode cL_law 792 = .ok (.iload_n 3, 1) := by decide +kernel
theorem dL_law_793 : decode cL_law 793 = .ok (.iconst 1, 1) := by decide +kernel
theorem dL_law_794 : decode cL_law 794 = .ok (.iadd, 1) := by decide +kernel
theorem dL_law_795 : decode cL_law 795 = .ok (.iaload, 1) := by decide +kernel
theorem dL_law_796 : decode cL_law 796 = .ok (.invokevirtual 113, 3) := by decide +kernel
theorem dL_law_799 : decode cL_law 799 = .ok (.aload_n 2, 1) := by decide +kernel
theorem dL_law_800 : decode cL_law 800 = .ok (.aload_n 0, 1) := by decide +kernel
theorem dL_law_801 : decode cL_law 801 = .ok (.iload_n 3, 1) := by decide +kernel
theorem dL_law_802 : decode cL_law 802 = .ok (.iconst 1, 1) := by decide +kernel
theorem dL_law_803 : decode cL_law 803 = .ok (.iadd, 1) := by decide +kernel
theorem dL_law_804 : decode cL_law 804 = .ok (.iaload, 1) := by decide +kernel
theorem dL_law_805 : decode cL_law 805 = .ok (.invokevirtual 116, 3) := by decide +kernel
theorem dL_law_808 : decode cL_law 808 = .ok (.if_icmp .eq 5, 3) := by decide +kernel
theorem dL_law_811 : decode cL_law 811 = .ok (.iconst 0, 1) := by decide +kernel
theorem dL_law_812 : decode cL_law 812 = .ok (.ireturn, 1) := by decide +kernel
theorem dL_law_813 : decode cL_law 813 = .ok (.iinc 3 4, 3) := by decide +kernel
theorem dL_law_816 : decode cL_law 816 = .ok (.goto (-798), 3) := by decide +kernel
theorem dL_law_819 : decode cL_law 819 = .ok (.iconst 1, 1) := by decide +kernel
theorem dL_law_820 : decode cL_law 820 = .ok (.ireturn, 1) := by decide +kernel
end
section
/-! ===== a small machine of whole numbers over the kit's rows: values, cells, worlds ===== -/
abbrev xV : Type := Int ⊕ (Option Nat ⊕ (Int ⊕ Nat))
abbrev xi (i : Int) : xV := .inl i
abbrev xr (k : Nat) : xV := .inr (.inl (some k))
abbrev xn : xV := .inr (.inl none)
abbrev xl (j : Int) : xV := .inr (.inr (.inl j))
abbrev xo (a : Nat) : xV := .inr (.inr (.inr a))
def rv (B : Nat) (v : xV) : Value := match v with
  | .inl i => .int (Int32.ofInt i)
  | .inr (.inl none) => .null
  | .inr (.inl (some k)) => .ref (B + k)
  | .inr (.inr (.inl j)) => .long (Int64.ofInt j)
  | .inr (.inr (.inr a)) => .ref a
def xcat (v : xV) : Nat := match v with
  | .inr (.inr (.inl _)) => 2
  | _ => 1
theorem rv_cat (B : Nat) (v : xV) : (rv B v).category = xcat v := by
  rcases v with i | (_ | k) | j | a <;> rfl
def inI (i : Int) : Prop := -2147483648 ≤ i ∧ i ≤ 2147483647
def inJ (i : Int) : Prop := -9223372036854775808 ≤ i ∧ i ≤ 9223372036854775807
def inV (v : xV) : Prop := match v with
  | .inl i => inI i
  | .inr (.inr (.inl j)) => inJ j
  | _ => True
abbrev xE : Type := (Nat × ((Nat → Int) ⊕ (Nat → Option Nat))) ⊕ (Nat × List xV)
abbrev xA (n : Nat) (f : Nat → Int) : xE := .inl (n, .inl f)
abbrev xQ (n : Nat) (g : Nat → Option Nat) : xE := .inl (n, .inr g)
abbrev xO (ci : Nat) (fs : List xV) : xE := .inr (ci, fs)
abbrev xW : Type := Nat → xE
def rE (B : Nat) (cA : ClassId) (e : xE) : va_E := match e with
  | .inl (n, .inl f) => .inl (cA, n, .inl (fun j => Int32.ofInt (f j)))
  | .inl (n, .inr g) => .inl (cA, n, .inr (.inr (.inr (.inr (fun j => (g j).map (fun k => B + k))))))
  | .inr (ci, fs) => .inr (ci, fs.map (rv B))
def wsOf (B : Nat) (ka : Nat → ClassId) (n : Nat) (w : xW) : va_W := (List.range n).map (fun k => (B + k, rE B (ka k) (w k)))
def eOK (s : State) (cA : ClassId) (e : xE) : Prop := match e with
  | .inl (_, .inl f) => (ArrOfT s cA .int ∧ va_RA s cA .int) ∧ ∀ j, inI (f j)
  | .inl (_, .inr _) => ArrOfT s cA (.object RX2) ∧ va_RA s cA (.object RX2)
  | .inr (_, fs) => ∀ v ∈ fs, inV v
def xZ : xE := xO 99 []
def Rel (B : Nat) (D : va_G) (s : State) (n : Nat) (w : xW) (H : Heap) : Prop :=
  (∀ k, n ≤ k → w k = xZ) ∧ ∃ ka : Nat → ClassId, va_P D vwCl (wsOf B ka n w) H ∧ ∀ k, k < n → eOK s (ka k) (w k)
theorem wsOf_get {B : Nat} {ka : Nat → ClassId} {n : Nat} {w : xW} {k : Nat} (h : k < n) : (wsOf B ka n w)[k]? = some (B + k, rE B (ka k) (w k)) := by
  unfold wsOf
  rw [List.getElem?_map, List.getElem?_range h]
  rfl
theorem wsOf_len {B : Nat} {ka : Nat → ClassId} {n : Nat} {w : xW} : (wsOf B ka n w).length = n := by simp [wsOf]
theorem wsOf_at {B : Nat} {ka : Nat → ClassId} {n : Nat} {w : xW} {k : Nat} {q : Nat × va_E} (h : (wsOf B ka n w)[k]? = some q) : k < n ∧ q = (B + k, rE B (ka k) (w k)) := by
  have hk : k < n := by
    have := (List.getElem?_eq_some_iff.mp h).1
    rwa [wsOf_len] at this
  rw [wsOf_get hk] at h
  exact ⟨hk, (Option.some.inj h).symm⟩
theorem wsOf_D {B : Nat} {ka : Nat → ClassId} {n : Nat} {w : xW} : va_D (fun q => B ≤ q) (wsOf B ka n w) := by
  refine ⟨fun i j p q h1 h2 e => ?_, fun k q h => ?_⟩
  · obtain ⟨-, rfl⟩ := wsOf_at h1
    obtain ⟨-, rfl⟩ := wsOf_at h2
    have e : B + i = B + j := e
    omega
  · obtain ⟨-, rfl⟩ := wsOf_at h
    show B ≤ B + k
    omega
theorem wsOf_set {B : Nat} {ka : Nat → ClassId} {n : Nat} {w : xW} {k : Nat} {e : xE} (h : k < n) : (wsOf B ka n w).set k (B + k, rE B (ka k) e) = wsOf B ka n (va_up w k e) := by
  apply List.ext_getElem?
  intro i
  by_cases hi : i < n
  · rw [wsOf_get hi, List.getElem?_set]
    by_cases hk : k = i
    · subst hk
      rw [if_pos rfl, if_pos (by rw [wsOf_len]; exact h)]
      simp [va_up]
    · rw [if_neg hk, wsOf_get hi]
      simp [va_up, Ne.symm hk]
  · rw [List.getElem?_eq_none (by rw [List.length_set, wsOf_len]; omega), List.getElem?_eq_none (by rw [wsOf_len]; omega)]
theorem Rel.lt {B : Nat} {D : va_G} {s : State} {n : Nat} {w : xW} {H : Heap} (h : Rel B D s n w H) {k : Nat} (hk : w k ≠ xZ) : k < n := by
  rcases Nat.lt_or_ge k n with q | q
  · exact q
  · exact absurd (h.1 k q) hk
theorem eOK.moved {u U : State} (hvm : u.vm.Alike U.vm) {cA : ClassId} {e : xE} (h : eOK u cA e) : eOK U cA e := by
  rcases e with ⟨n, f | g⟩ | ⟨ci, fs⟩
  · exact ⟨⟨arrOfT_moved hvm h.1.1, h.1.2.moved hvm⟩, h.2⟩
  · exact ⟨arrOfT_moved hvm h.1, h.2.moved hvm⟩
  · exact h
theorem Rel.moved {B : Nat} {D : va_G} {s U : State} (hvm : s.vm.Alike U.vm) {n : Nat} {w : xW} {H : Heap} (h : Rel B D s n w H) : Rel B D U n w H := by
  obtain ⟨h2, ka, h3, h4⟩ := h
  exact ⟨h2, ka, h3, fun k hk => (h4 k hk).moved hvm⟩
theorem Rel.inA {B : Nat} {D : va_G} {s : State} {n : Nat} {w : xW} {H : Heap} (h : Rel B D s n w H) {r N : Nat} {f : Nat → Int} (hw : w r = xA N f) : ∀ j, inI (f j) := by
  have hr : r < n := h.lt (by rw [hw]; intro q; cases q)
  obtain ⟨-, ka, -, h4⟩ := h
  have := h4 r hr
  rw [hw] at this
  exact this.2
theorem Rel.inO {B : Nat} {D : va_G} {s : State} {n : Nat} {w : xW} {H : Heap} (h : Rel B D s n w H) {r ci : Nat} {fs : List xV} (hw : w r = xO ci fs) (hne : ci ≠ 99) : ∀ v ∈ fs, inV v := by
  have hr : r < n := h.lt (by rw [hw]; intro q; cases q; exact hne rfl)
  obtain ⟨-, ka, -, h4⟩ := h
  have := h4 r hr
  rw [hw] at this
  exact this
/-- how large the heap is -/
theorem Rel.size {B : Nat} {D : va_G} {u : State} {n : Nat} {w : xW} {H : Heap} (h : Rel B D u n w H) {p : Program} {l : Launch} {e : Env} {R : Room} {s : State} {m : MethodId} {args : Array Value} {below : List Frame} {meth : Method} {c : Code} {T : State} {locs : List Loc} {k j : Nat} (hB : B ≤ s.heap.size) (hk : s.heap.size + k = B + n) (X : Stand p l e R s m args below meth c T locs k j) (hT : T.heap = H) : H.size = B + n := by
  have h1 : T.heap.size ≤ s.heap.size + k := X.same.2.2.1
  have h0 : s.heap.size ≤ T.heap.size := X.same.2.1
  rw [hT] at h1 h0
  obtain ⟨-, ka, hP, -⟩ := h
  rcases Nat.eq_zero_or_pos n with q | q
  · omega
  · have h2 := (hP (n - 1) _ (wsOf_get (by omega))).lt
    have h3 : B + (n - 1) < H.size := h2
    omega
/-- a cell is given another content of its kind -/
theorem Rel.set {B : Nat} {D : va_G} {s : State} {n : Nat} {w : xW} {H1 : Heap} {ka : Nat → ClassId} {k : Nat} {e : xE} (hk : k < n) (hw : ∀ i, n ≤ i → w i = xZ) (hP : va_P D vwCl ((wsOf B ka n w).set k (B + k, rE B (ka k) e)) H1) (h4 : ∀ i, i < n → eOK s (ka i) (w i)) (he : eOK s (ka k) e) : Rel B D s n (va_up w k e) H1 := by
  rw [wsOf_set hk] at hP
  refine ⟨fun i hi => ?_, ka, hP, fun i hi => ?_⟩
  · have : i ≠ k := by omega
    simp [va_up, this]
    exact hw i hi
  · by_cases q : i = k
    · subst q; simpa [va_up] using he
    · simpa [va_up, q] using h4 i hi
/-! ===== locals ===== -/
def prL (B : Nat) (L : List (Option xV)) : List (Nat × Value) := (List.range L.length).filterMap (fun i => (L[i]?.join).map (fun v => (i, rv B v)))
theorem mem_prL {B : Nat} {L : List (Option xV)} {i : Nat} {x : Value} : (i, x) ∈ prL B L ↔ ∃ v, L[i]? = some (some v) ∧ x = rv B v := by
  unfold prL
  rw [List.mem_filterMap]
  constructor
  · rintro ⟨a, -, h⟩
    obtain ⟨v, h1, h2⟩ := Option.map_eq_some_iff.mp h
    cases h2
    exact ⟨v, by rw [Option.join_eq_some_iff] at h1; exact h1, rfl⟩
  · rintro ⟨v, h1, rfl⟩
    refine ⟨i, List.mem_range.mpr ((List.getElem?_eq_some_iff.mp h1).1), ?_⟩
    rw [h1]; rfl
def hasL (B : Nat) (c : Code) (ls : Array Slot) (L : List (Option xV)) : Prop := ls.size = c.maxLocals ∧ lv_has ls L.length (prL B L) ∧ ∀ v, some v ∈ L → inV v
theorem hasL.at {B : Nat} {c : Code} {ls : Array Slot} {L : List (Option xV)} (h : hasL B c ls L) {i : Nat} {v : xV} (hi : L[i]? = some (some v)) : ls[i]? = some (.val (rv B v)) := h.2.1.2.2 (i, rv B v) (mem_prL.mpr ⟨v, hi, rfl⟩)
theorem hasL.inv {B : Nat} {c : Code} {ls : Array Slot} {L : List (Option xV)} (h : hasL B c ls L) {i : Nat} {v : xV} (hi : L[i]? = some (some v)) : inV v := h.2.2 v (List.mem_of_getElem? hi)
def stOK (L : List (Option xV)) (i : Nat) : Bool := match i with
  | 0 => true
  | i + 1 => match L[i]? with
    | some (some v) => xcat v == 1
    | _ => true
theorem stOK_ne {L : List (Option xV)} {i i2 : Nat} {v : xV} (h : stOK L i = true) (hi : i2 + 1 = i) (hv : L[i2]? = some (some v)) : xcat v = 1 := by
  subst hi
  simp only [stOK, hv] at h
  simpa using h
theorem hasL.store {B : Nat} {c : Code} {ls ls' : Array Slot} {L : List (Option xV)} {i : Nat} {v : xV} (h : hasL B c ls L) (hok : stOK L i = true) (hi : i < L.length) (hv : inV v)
    (h' : lv_has ls' L.length ((i, rv B v) :: (prL B L).filter (fun q => !(q.1 == i) && !(q.1 + 1 == i && q.2.category == 2)))) : hasL B c ls' (L.set i (some v)) := by
  refine ⟨?_, ⟨by rw [List.length_set]; exact h'.1, h'.2.1, ?_⟩, ?_⟩
  · rw [h'.1, ← h.2.1.1]; exact h.1
  · rintro ⟨i2, x⟩ hq
    obtain ⟨v2, h1, rfl⟩ := mem_prL.mp hq
    rw [List.getElem?_set] at h1
    by_cases e : i = i2
    · subst e
      rw [if_pos rfl, if_pos hi] at h1
      cases h1
      exact h'.2.2 _ List.mem_cons_self
    · rw [if_neg e] at h1
      refine h'.2.2 _ (List.mem_cons_of_mem _ (List.mem_filter.mpr ⟨mem_prL.mpr ⟨v2, h1, rfl⟩, ?_⟩))
      have e2 : ¬ i2 = i := fun q => e q.symm
      by_cases e3 : i2 + 1 = i
      · have := stOK_ne hok e3 h1
        simp [e2, rv_cat, this]
      · simp [e2, e3]
  · intro v2 h2
    rcases List.mem_or_eq_of_mem_set h2 with q | q
    · exact h.2.2 v2 q
    · cases q; exact hv
theorem hasL.store2 {B : Nat} {c : Code} {ls ls' : Array Slot} {L : List (Option xV)} {i : Nat} {v : xV} (h : hasL B c ls L) (hok : stOK L i = true) (hi : i + 1 < L.length) (hv : inV v)
    (h' : lv_has ls' L.length ((i, rv B v) :: (prL B L).filter (fun q => !(q.1 == i) && (!(q.1 == i + 1) && !(q.1 + 1 == i && q.2.category == 2))))) : hasL B c ls' ((L.set i (some v)).set (i + 1) none) := by
  refine ⟨?_, ⟨by rw [List.length_set, List.length_set]; exact h'.1, h'.2.1, ?_⟩, ?_⟩
  · rw [h'.1, ← h.2.1.1]; exact h.1
  · rintro ⟨i2, x⟩ hq
    obtain ⟨v2, h1, rfl⟩ := mem_prL.mp hq
    rw [List.getElem?_set] at h1
    by_cases e0 : i + 1 = i2
    · subst e0
      rw [if_pos rfl] at h1
      split at h1 <;> cases h1
    rw [if_neg e0, List.getElem?_set] at h1
    by_cases e : i = i2
    · subst e
      rw [if_pos rfl, if_pos (by omega)] at h1
      cases h1
      exact h'.2.2 _ List.mem_cons_self
    · rw [if_neg e] at h1
      refine h'.2.2 _ (List.mem_cons_of_mem _ (List.mem_filter.mpr ⟨mem_prL.mpr ⟨v2, h1, rfl⟩, ?_⟩))
      have e2 : ¬ i2 = i := fun q => e q.symm
      have e4 : ¬ i2 = i + 1 := fun q => e0 q.symm
      by_cases e3 : i2 + 1 = i
      · have := stOK_ne hok e3 h1
        simp [e2, e4, rv_cat, this]
      · simp [e2, e3, e4]
  · intro v2 h2
    rcases List.mem_or_eq_of_mem_set h2 with q | q
    · rcases List.mem_or_eq_of_mem_set q with q | q
      · exact h.2.2 v2 q
      · cases q; exact hv
    · cases q
/-! ===== words ===== -/
def xWS : List Cond := lw_tbl.filter goodWord
theorem xws {i : Nat} {w : Cond} (h : lw_tbl[i]? = some w) (hg : goodWord w = true) : w ∈ xWS := List.mem_filter.mpr ⟨List.mem_of_getElem? h, hg⟩
def fOK (own : String) (idx ci q : Nat) : Prop := ∃ (C : String) (T : u_T) (N : Nat), vwCl[ci]? = some (C, T, N) ∧ q < N ∧ (T q).1 = C ∧ ((Cond.fieldLink own idx C (T q).2.1 (T q).2.2.1 ∈ xWS) ∨ ∃ host, Cond.fieldLinkNest own idx C (T q).2.1 (T q).2.2.1 host ∈ lw_tbl)
def lkOK (own : String) (idx : Nat) (y : MethodName) : Prop := Cond.methodLink own idx y ∈ xWS ∨ ∃ host, Cond.methodLinkNest own idx y host ∈ lw_tbl
def yOK (y : MethodName) (cc : ByteArray) (nL : Nat) (ret : Option FieldType) (np : Nat) : Prop := Cond.code y cc nL ret ∈ xWS ∧ Cond.initialized y.cls ∈ xWS ∧ plainFor y = true ∧ (y.cls ≠ "java/lang/invoke/MethodHandle" ∧ y.cls ≠ "java/lang/invoke/VarHandle" ∧ (parseMethodDescriptor y.desc).map (fun d => d.parameters.length) = some np)
def vOK (y : MethodName) : Prop := Cond.instanceMethod y ∈ xWS ∧ Cond.selects y.cls y y ∈ xWS
def nOK (y : MethodName) : Prop := y.name = "<init>" ∧ Cond.instanceMethod y ∈ xWS
/-! ===== numbers ===== -/
theorem i32_to {a : Int} (h : inI a) : (Int32.ofInt a).toInt = a := by
  rw [Int32.toInt_ofInt]
  obtain ⟨h1, h2⟩ := h
  apply Int.bmod_eq_of_le <;> simp [Int32.size] <;> omega
theorem i32_eq {a b : Int} (ha : inI a) (hb : inI b) : Int32.ofInt a = Int32.ofInt b ↔ a = b := by
  constructor
  · intro h
    rw [← i32_to ha, ← i32_to hb, h]
  · rintro rfl; rfl
theorem i32_lt {a b : Int} (ha : inI a) (hb : inI b) : Int32.ofInt a < Int32.ofInt b ↔ a < b := by
  rw [Int32.lt_iff_toInt_lt, i32_to ha, i32_to hb]
theorem i32_le {a b : Int} (ha : inI a) (hb : inI b) : Int32.ofInt a ≤ Int32.ofInt b ↔ a ≤ b := by
  rw [Int32.le_iff_toInt_le, i32_to ha, i32_to hb]
theorem i32_nat {a : Int} (ha : inI a) (h0 : 0 ≤ a) : (Int32.ofInt a).toNatClampNeg = a.toNat := by
  show (Int32.ofInt a).toInt.toNat = _
  rw [i32_to ha]
theorem i32_in {a : Int} {n : Nat} (ha : inI a) (h0 : 0 ≤ a) (h1 : a < n) : vp_in (Int32.ofInt a) n := by
  rw [vp_in_iff, i32_to ha]
  exact ⟨h0, h1⟩
theorem i32_back (x : Int32) : Int32.ofInt x.toInt = x := Int32.ofInt_toInt x
theorem i32_r (x : Int32) : inI x.toInt := ⟨Int32.le_toInt x, by have := Int32.toInt_lt x; omega⟩
theorem i32_as {a : Int} {x : Int32} (h : x.toInt = a) : x = Int32.ofInt a := by rw [← h, i32_back]
end
section
theorem tw_242 : lw_tbl[242]? = some (Cond.laysFinal "ShiftedShapes$Covering" "ShiftedShapes$Covering" "covers" "[I") := by decide +kernel
theorem tw_244 : lw_tbl[244]? = some (Cond.lays "ShiftedShapes$Covering" "ShiftedShapes$Covering" "size" "I") := by decide +kernel
theorem tw_221 : lw_tbl[221]? = some (Cond.laysFinal "ShiftedShapes$Parting" "ShiftedShapes$Parting" "sets" "[I") := by decide +kernel
theorem tw_223 : lw_tbl[223]? = some (Cond.laysFinal "ShiftedShapes$Parting" "ShiftedShapes$Parting" "places" "[I") := by decide +kernel
theorem tw_225 : lw_tbl[225]? = some (Cond.laysFinal "ShiftedShapes$Parting" "ShiftedShapes$Parting" "covers" "[I") := by decide +kernel
theorem tw_227 : lw_tbl[227]? = some (Cond.lays "ShiftedShapes$Parting" "ShiftedShapes$Parting" "size" "I") := by decide +kernel
theorem tw_229 : lw_tbl[229]? = some (Cond.lays "ShiftedShapes$Parting" "ShiftedShapes$Parting" "rest" "I") := by decide +kernel
theorem tw_231 : lw_tbl[231]? = some (Cond.lays "ShiftedShapes$Parting" "ShiftedShapes$Parting" "price" "I") := by decide +kernel
theorem tw_123 : lw_tbl[123]? = some (Cond.laysFinal "ShiftedShapes$Piece" "ShiftedShapes$Piece" "codes" "[I") := by decide +kernel
theorem tw_125 : lw_tbl[125]? = some (Cond.lays "ShiftedShapes$Piece" "ShiftedShapes$Piece" "size" "I") := by decide +kernel
theorem tw_127 : lw_tbl[127]? = some (Cond.lays "ShiftedShapes$Piece" "ShiftedShapes$Piece" "manner" "I") := by decide +kernel
theorem tw_145 : lw_tbl[145]? = some (Cond.laysFinal "ShiftedShapes$Pile" "ShiftedShapes$Pile" "pieces" "[LShiftedShapes$Piece;") := by decide +kernel
theorem tw_147 : lw_tbl[147]? = some (Cond.lays "ShiftedShapes$Pile" "ShiftedShapes$Pile" "size" "I") := by decide +kernel
theorem tw_100 : lw_tbl[100]? = some (Cond.laysFinal "ShiftedShapes$Script" "ShiftedShapes$Script" "letters" "[I") := by decide +kernel
theorem tw_102 : lw_tbl[102]? = some (Cond.lays "ShiftedShapes$Script" "ShiftedShapes$Script" "length" "I") := by decide +kernel
theorem tw_104 : lw_tbl[104]? = some (Cond.lays "ShiftedShapes$Script" "ShiftedShapes$Script" "at" "I") := by decide +kernel
theorem tw_178 : lw_tbl[178]? = some (Cond.laysFinal "ShiftedShapes$Search" "ShiftedShapes$Search" "times" "[I") := by decide +kernel
theorem tw_180 : lw_tbl[180]? = some (Cond.laysFinal "ShiftedShapes$Search" "ShiftedShapes$Search" "pitches" "[I") := by decide +kernel
theorem tw_182 : lw_tbl[182]? = some (Cond.laysFinal "ShiftedShapes$Search" "ShiftedShapes$Search" "numbers" "[I") := by decide +kernel
theorem tw_184 : lw_tbl[184]? = some (Cond.laysFinal "ShiftedShapes$Search" "ShiftedShapes$Search" "largests" "[I") := by decide +kernel
theorem tw_186 : lw_tbl[186]? = some (Cond.laysFinal "ShiftedShapes$Search" "ShiftedShapes$Search" "wideShifts" "[I") := by decide +kernel
theorem tw_188 : lw_tbl[188]? = some (Cond.lays "ShiftedShapes$Search" "ShiftedShapes$Search" "wideCount" "I") := by decide +kernel
theorem tw_190 : lw_tbl[190]? = some (Cond.lays "ShiftedShapes$Search" "ShiftedShapes$Search" "manner" "I") := by decide +kernel
theorem tw_192 : lw_tbl[192]? = some (Cond.lays "ShiftedShapes$Search" "ShiftedShapes$Search" "present" "I") := by decide +kernel
theorem tw_194 : lw_tbl[194]? = some (Cond.laysFinal "ShiftedShapes$Search" "ShiftedShapes$Search" "shapeSets" "[I") := by decide +kernel
theorem tw_196 : lw_tbl[196]? = some (Cond.laysFinal "ShiftedShapes$Search" "ShiftedShapes$Search" "shapePlaces" "[I") := by decide +kernel
theorem tw_198 : lw_tbl[198]? = some (Cond.laysFinal "ShiftedShapes$Search" "ShiftedShapes$Search" "shapeCovers" "[I") := by decide +kernel
theorem tw_200 : lw_tbl[200]? = some (Cond.lays "ShiftedShapes$Search" "ShiftedShapes$Search" "shapeCount" "I") := by decide +kernel
theorem tw_271 : lw_tbl[271]? = some (Cond.laysFinal "ShiftedShapes" "ShiftedShapes" "script" "LShiftedShapes$Script;") := by decide +kernel
theorem tw_273 : lw_tbl[273]? = some (Cond.laysFinal "ShiftedShapes" "ShiftedShapes" "piece" "LShiftedShapes$Piece;") := by decide +kernel
theorem tw_275 : lw_tbl[275]? = some (Cond.laysFinal "ShiftedShapes" "ShiftedShapes" "trial" "LShiftedShapes$Piece;") := by decide +kernel
theorem tw_277 : lw_tbl[277]? = some (Cond.laysFinal "ShiftedShapes" "ShiftedShapes" "undoable" "LShiftedShapes$Pile;") := by decide +kernel
theorem tw_279 : lw_tbl[279]? = some (Cond.laysFinal "ShiftedShapes" "ShiftedShapes" "kept" "LShiftedShapes$Pile;") := by decide +kernel
theorem tw_281 : lw_tbl[281]? = some (Cond.laysFinal "ShiftedShapes" "ShiftedShapes" "whole" "LShiftedShapes$Search;") := by decide +kernel
theorem tw_283 : lw_tbl[283]? = some (Cond.laysFinal "ShiftedShapes" "ShiftedShapes" "scratch" "LShiftedShapes$Search;") := by decide +kernel
theorem tw_285 : lw_tbl[285]? = some (Cond.laysFinal "ShiftedShapes" "ShiftedShapes" "parts" "LShiftedShapes$Parting;") := by decide +kernel
theorem tw_287 : lw_tbl[287]? = some (Cond.laysFinal "ShiftedShapes" "ShiftedShapes" "covering" "LShiftedShapes$Covering;") := by decide +kernel
theorem tw_289 : lw_tbl[289]? = some (Cond.lays "ShiftedShapes" "ShiftedShapes" "wholeKnown" "Z") := by decide +kernel
theorem tw_291 : lw_tbl[291]? = some (Cond.lays "ShiftedShapes" "ShiftedShapes" "betterKnown" "Z") := by decide +kernel
theorem tw_293 : lw_tbl[293]? = some (Cond.lays "ShiftedShapes" "ShiftedShapes" "betterCode" "I") := by decide +kernel
theorem tw_295 : lw_tbl[295]? = some (Cond.lays "ShiftedShapes" "ShiftedShapes" "betterGain" "I") := by decide +kernel
theorem tw_698 : lw_tbl[698]? = some (Cond.laysFinal "ShiftedShapesModel" "ShiftedShapesModel" "now" "[I") := by decide +kernel
theorem tw_700 : lw_tbl[700]? = some (Cond.laysFinal "ShiftedShapesModel" "ShiftedShapesModel" "read" "[I") := by decide +kernel
theorem tw_702 : lw_tbl[702]? = some (Cond.laysFinal "ShiftedShapesModel" "ShiftedShapesModel" "aside" "[I") := by decide +kernel
theorem tw_704 : lw_tbl[704]? = some (Cond.laysFinal "ShiftedShapesModel" "ShiftedShapesModel" "past" "[I") := by decide +kernel
theorem tw_706 : lw_tbl[706]? = some (Cond.lays "ShiftedShapesModel" "ShiftedShapesModel" "undos" "I") := by decide +kernel
theorem tw_708 : lw_tbl[708]? = some (Cond.laysFinal "ShiftedShapesModel" "ShiftedShapesModel" "kept" "[I") := by decide +kernel
theorem tw_710 : lw_tbl[710]? = some (Cond.lays "ShiftedShapesModel" "ShiftedShapesModel" "keeps" "I") := by decide +kernel
theorem tw_712 : lw_tbl[712]? = some (Cond.laysFinal "ShiftedShapesModel" "ShiftedShapesModel" "text" "[I") := by decide +kernel
theorem tw_714 : lw_tbl[714]? = some (Cond.lays "ShiftedShapesModel" "ShiftedShapesModel" "length" "I") := by decide +kernel
theorem tw_716 : lw_tbl[716]? = some (Cond.lays "ShiftedShapesModel" "ShiftedShapesModel" "place" "I") := by decide +kernel
theorem tw_718 : lw_tbl[718]? = some (Cond.laysFinal "ShiftedShapesModel" "ShiftedShapesModel" "at" "[I") := by decide +kernel
theorem tw_720 : lw_tbl[720]? = some (Cond.laysFinal "ShiftedShapesModel" "ShiftedShapesModel" "largest" "[I") := by decide +kernel
theorem tw_722 : lw_tbl[722]? = some (Cond.lays "ShiftedShapesModel" "ShiftedShapesModel" "modeNow" "I") := by decide +kernel
theorem tw_724 : lw_tbl[724]? = some (Cond.lays "ShiftedShapesModel" "ShiftedShapesModel" "places" "I") := by decide +kernel
theorem tw_726 : lw_tbl[726]? = some (Cond.lays "ShiftedShapesModel" "ShiftedShapesModel" "cover" "I") := by decide +kernel
theorem tw_728 : lw_tbl[728]? = some (Cond.lays "ShiftedShapesModel" "ShiftedShapesModel" "shapes" "I") := by decide +kernel
theorem tw_730 : lw_tbl[730]? = some (Cond.laysFinal "ShiftedShapesModel" "ShiftedShapesModel" "shape" "[I") := by decide +kernel
theorem tw_732 : lw_tbl[732]? = some (Cond.lays "ShiftedShapesModel" "ShiftedShapesModel" "best" "I") := by decide +kernel
theorem tw_734 : lw_tbl[734]? = some (Cond.lays "ShiftedShapesModel" "ShiftedShapesModel" "bestGain" "I") := by decide +kernel
theorem tw_736 : lw_tbl[736]? = some (Cond.lays "ShiftedShapesModel" "ShiftedShapesModel" "bestCover" "I") := by decide +kernel
theorem tw_738 : lw_tbl[738]? = some (Cond.lays "ShiftedShapesModel" "ShiftedShapesModel" "bestPlaces" "I") := by decide +kernel
theorem tw_740 : lw_tbl[740]? = some (Cond.lays "ShiftedShapesModel" "ShiftedShapesModel" "parts" "I") := by decide +kernel
theorem tw_742 : lw_tbl[742]? = some (Cond.laysFinal "ShiftedShapesModel" "ShiftedShapesModel" "part" "[I") := by decide +kernel
theorem tw_744 : lw_tbl[744]? = some (Cond.lays "ShiftedShapesModel" "ShiftedShapesModel" "rest" "I") := by decide +kernel
theorem tw_746 : lw_tbl[746]? = some (Cond.lays "ShiftedShapesModel" "ShiftedShapesModel" "price" "I") := by decide +kernel
theorem tw_748 : lw_tbl[748]? = some (Cond.laysFinal "ShiftedShapesModel" "ShiftedShapesModel" "few" "[I") := by decide +kernel
theorem tw_750 : lw_tbl[750]? = some (Cond.laysFinal "ShiftedShapesModel" "ShiftedShapesModel" "covers" "[I") := by decide +kernel
theorem tw_96 : lw_tbl[96]? = some (Cond.fieldLink "ShiftedShapes$Script" 9 "ShiftedShapes$Script" "letters" "[I") := by decide +kernel
theorem tw_97 : lw_tbl[97]? = some (Cond.fieldLink "ShiftedShapes$Script" 15 "ShiftedShapes$Script" "length" "I") := by decide +kernel
theorem tw_98 : lw_tbl[98]? = some (Cond.fieldLinkNest "ShiftedShapes" 81 "ShiftedShapes$Script" "length" "I" "ShiftedShapes") := by decide +kernel
theorem tw_99 : lw_tbl[99]? = some (Cond.fieldLink "ShiftedShapes$Script" 27 "ShiftedShapes$Script" "at" "I") := by decide +kernel
theorem tw_114 : lw_tbl[114]? = some (Cond.fieldLink "ShiftedShapes$Piece" 9 "ShiftedShapes$Piece" "codes" "[I") := by decide +kernel
theorem tw_115 : lw_tbl[115]? = some (Cond.fieldLink "ShiftedShapes$Piece" 15 "ShiftedShapes$Piece" "size" "I") := by decide +kernel
theorem tw_116 : lw_tbl[116]? = some (Cond.fieldLinkNest "ShiftedShapes$Search" 56 "ShiftedShapes$Piece" "size" "I" "ShiftedShapes") := by decide +kernel
theorem tw_117 : lw_tbl[117]? = some (Cond.fieldLinkNest "ShiftedShapes$Script" 19 "ShiftedShapes$Piece" "size" "I" "ShiftedShapes") := by decide +kernel
theorem tw_118 : lw_tbl[118]? = some (Cond.fieldLinkNest "ShiftedShapes" 89 "ShiftedShapes$Piece" "size" "I" "ShiftedShapes") := by decide +kernel
theorem tw_119 : lw_tbl[119]? = some (Cond.fieldLinkNest "ShiftedShapes$Search" 36 "ShiftedShapes$Piece" "manner" "I" "ShiftedShapes") := by decide +kernel
theorem tw_120 : lw_tbl[120]? = some (Cond.fieldLinkNest "ShiftedShapes$Script" 24 "ShiftedShapes$Piece" "manner" "I" "ShiftedShapes") := by decide +kernel
theorem tw_121 : lw_tbl[121]? = some (Cond.fieldLink "ShiftedShapes$Piece" 25 "ShiftedShapes$Piece" "manner" "I") := by decide +kernel
theorem tw_122 : lw_tbl[122]? = some (Cond.fieldLinkNest "ShiftedShapes" 132 "ShiftedShapes$Piece" "manner" "I" "ShiftedShapes") := by decide +kernel
theorem tw_142 : lw_tbl[142]? = some (Cond.fieldLink "ShiftedShapes$Pile" 15 "ShiftedShapes$Pile" "pieces" "[LShiftedShapes$Piece;") := by decide +kernel
theorem tw_143 : lw_tbl[143]? = some (Cond.fieldLink "ShiftedShapes$Pile" 22 "ShiftedShapes$Pile" "size" "I") := by decide +kernel
theorem tw_144 : lw_tbl[144]? = some (Cond.fieldLinkNest "ShiftedShapes" 96 "ShiftedShapes$Pile" "size" "I" "ShiftedShapes") := by decide +kernel
theorem tw_156 : lw_tbl[156]? = some (Cond.fieldLink "ShiftedShapes$Search" 9 "ShiftedShapes$Search" "times" "[I") := by decide +kernel
theorem tw_157 : lw_tbl[157]? = some (Cond.fieldLink "ShiftedShapes$Search" 15 "ShiftedShapes$Search" "pitches" "[I") := by decide +kernel
theorem tw_158 : lw_tbl[158]? = some (Cond.fieldLink "ShiftedShapes$Search" 18 "ShiftedShapes$Search" "numbers" "[I") := by decide +kernel
theorem tw_159 : lw_tbl[159]? = some (Cond.fieldLink "ShiftedShapes$Search" 21 "ShiftedShapes$Search" "largests" "[I") := by decide +kernel
theorem tw_160 : lw_tbl[160]? = some (Cond.fieldLink "ShiftedShapes$Search" 24 "ShiftedShapes$Search" "wideShifts" "[I") := by decide +kernel
theorem tw_161 : lw_tbl[161]? = some (Cond.fieldLink "ShiftedShapes$Search" 102 "ShiftedShapes$Search" "wideCount" "I") := by decide +kernel
theorem tw_162 : lw_tbl[162]? = some (Cond.fieldLink "ShiftedShapes$Search" 42 "ShiftedShapes$Search" "manner" "I") := by decide +kernel
theorem tw_163 : lw_tbl[163]? = some (Cond.fieldLink "ShiftedShapes$Search" 47 "ShiftedShapes$Search" "present" "I") := by decide +kernel
theorem tw_164 : lw_tbl[164]? = some (Cond.fieldLink "ShiftedShapes$Search" 27 "ShiftedShapes$Search" "shapeSets" "[I") := by decide +kernel
theorem tw_165 : lw_tbl[165]? = some (Cond.fieldLinkNest "ShiftedShapes$Parting" 62 "ShiftedShapes$Search" "shapeSets" "[I" "ShiftedShapes") := by decide +kernel
theorem tw_166 : lw_tbl[166]? = some (Cond.fieldLinkNest "ShiftedShapes" 155 "ShiftedShapes$Search" "shapeSets" "[I" "ShiftedShapes") := by decide +kernel
theorem tw_167 : lw_tbl[167]? = some (Cond.fieldLink "ShiftedShapes$Search" 30 "ShiftedShapes$Search" "shapePlaces" "[I") := by decide +kernel
theorem tw_168 : lw_tbl[168]? = some (Cond.fieldLinkNest "ShiftedShapes$Parting" 65 "ShiftedShapes$Search" "shapePlaces" "[I" "ShiftedShapes") := by decide +kernel
theorem tw_169 : lw_tbl[169]? = some (Cond.fieldLinkNest "ShiftedShapes" 158 "ShiftedShapes$Search" "shapePlaces" "[I" "ShiftedShapes") := by decide +kernel
theorem tw_170 : lw_tbl[170]? = some (Cond.fieldLink "ShiftedShapes$Search" 33 "ShiftedShapes$Search" "shapeCovers" "[I") := by decide +kernel
theorem tw_171 : lw_tbl[171]? = some (Cond.fieldLinkNest "ShiftedShapes$Covering" 40 "ShiftedShapes$Search" "shapeCovers" "[I" "ShiftedShapes") := by decide +kernel
theorem tw_172 : lw_tbl[172]? = some (Cond.fieldLinkNest "ShiftedShapes$Parting" 68 "ShiftedShapes$Search" "shapeCovers" "[I" "ShiftedShapes") := by decide +kernel
theorem tw_173 : lw_tbl[173]? = some (Cond.fieldLinkNest "ShiftedShapes" 161 "ShiftedShapes$Search" "shapeCovers" "[I" "ShiftedShapes") := by decide +kernel
theorem tw_174 : lw_tbl[174]? = some (Cond.fieldLinkNest "ShiftedShapes$Covering" 33 "ShiftedShapes$Search" "shapeCount" "I" "ShiftedShapes") := by decide +kernel
theorem tw_175 : lw_tbl[175]? = some (Cond.fieldLinkNest "ShiftedShapes$Parting" 59 "ShiftedShapes$Search" "shapeCount" "I" "ShiftedShapes") := by decide +kernel
theorem tw_176 : lw_tbl[176]? = some (Cond.fieldLink "ShiftedShapes$Search" 109 "ShiftedShapes$Search" "shapeCount" "I") := by decide +kernel
theorem tw_177 : lw_tbl[177]? = some (Cond.fieldLinkNest "ShiftedShapes" 152 "ShiftedShapes$Search" "shapeCount" "I" "ShiftedShapes") := by decide +kernel
theorem tw_209 : lw_tbl[209]? = some (Cond.fieldLink "ShiftedShapes$Parting" 9 "ShiftedShapes$Parting" "sets" "[I") := by decide +kernel
theorem tw_210 : lw_tbl[210]? = some (Cond.fieldLinkNest "ShiftedShapes" 185 "ShiftedShapes$Parting" "sets" "[I" "ShiftedShapes") := by decide +kernel
theorem tw_211 : lw_tbl[211]? = some (Cond.fieldLink "ShiftedShapes$Parting" 15 "ShiftedShapes$Parting" "places" "[I") := by decide +kernel
theorem tw_212 : lw_tbl[212]? = some (Cond.fieldLinkNest "ShiftedShapes" 188 "ShiftedShapes$Parting" "places" "[I" "ShiftedShapes") := by decide +kernel
theorem tw_213 : lw_tbl[213]? = some (Cond.fieldLink "ShiftedShapes$Parting" 18 "ShiftedShapes$Parting" "covers" "[I") := by decide +kernel
theorem tw_214 : lw_tbl[214]? = some (Cond.fieldLinkNest "ShiftedShapes" 191 "ShiftedShapes$Parting" "covers" "[I" "ShiftedShapes") := by decide +kernel
theorem tw_215 : lw_tbl[215]? = some (Cond.fieldLink "ShiftedShapes$Parting" 21 "ShiftedShapes$Parting" "size" "I") := by decide +kernel
theorem tw_216 : lw_tbl[216]? = some (Cond.fieldLinkNest "ShiftedShapes" 184 "ShiftedShapes$Parting" "size" "I" "ShiftedShapes") := by decide +kernel
theorem tw_217 : lw_tbl[217]? = some (Cond.fieldLink "ShiftedShapes$Parting" 34 "ShiftedShapes$Parting" "rest" "I") := by decide +kernel
theorem tw_218 : lw_tbl[218]? = some (Cond.fieldLinkNest "ShiftedShapes" 194 "ShiftedShapes$Parting" "rest" "I" "ShiftedShapes") := by decide +kernel
theorem tw_219 : lw_tbl[219]? = some (Cond.fieldLink "ShiftedShapes$Parting" 25 "ShiftedShapes$Parting" "price" "I") := by decide +kernel
theorem tw_220 : lw_tbl[220]? = some (Cond.fieldLinkNest "ShiftedShapes" 197 "ShiftedShapes$Parting" "price" "I" "ShiftedShapes") := by decide +kernel
theorem tw_240 : lw_tbl[240]? = some (Cond.fieldLink "ShiftedShapes$Covering" 9 "ShiftedShapes$Covering" "covers" "[I") := by decide +kernel
theorem tw_241 : lw_tbl[241]? = some (Cond.fieldLink "ShiftedShapes$Covering" 25 "ShiftedShapes$Covering" "size" "I") := by decide +kernel
theorem tw_247 : lw_tbl[247]? = some (Cond.fieldLink "ShiftedShapes" 62 "ShiftedShapes" "FIRST_TIMES" "[I") := by decide +kernel
theorem tw_249 : lw_tbl[249]? = some (Cond.fieldLink "ShiftedShapes" 66 "ShiftedShapes" "FIRST_PITCHES" "[I") := by decide +kernel
theorem tw_258 : lw_tbl[258]? = some (Cond.fieldLink "ShiftedShapes" 12 "ShiftedShapes" "script" "LShiftedShapes$Script;") := by decide +kernel
theorem tw_259 : lw_tbl[259]? = some (Cond.fieldLink "ShiftedShapes" 19 "ShiftedShapes" "piece" "LShiftedShapes$Piece;") := by decide +kernel
theorem tw_260 : lw_tbl[260]? = some (Cond.fieldLink "ShiftedShapes" 23 "ShiftedShapes" "trial" "LShiftedShapes$Piece;") := by decide +kernel
theorem tw_261 : lw_tbl[261]? = some (Cond.fieldLink "ShiftedShapes" 31 "ShiftedShapes" "undoable" "LShiftedShapes$Pile;") := by decide +kernel
theorem tw_262 : lw_tbl[262]? = some (Cond.fieldLink "ShiftedShapes" 35 "ShiftedShapes" "kept" "LShiftedShapes$Pile;") := by decide +kernel
theorem tw_263 : lw_tbl[263]? = some (Cond.fieldLink "ShiftedShapes" 41 "ShiftedShapes" "whole" "LShiftedShapes$Search;") := by decide +kernel
theorem tw_264 : lw_tbl[264]? = some (Cond.fieldLink "ShiftedShapes" 45 "ShiftedShapes" "scratch" "LShiftedShapes$Search;") := by decide +kernel
theorem tw_265 : lw_tbl[265]? = some (Cond.fieldLink "ShiftedShapes" 51 "ShiftedShapes" "parts" "LShiftedShapes$Parting;") := by decide +kernel
theorem tw_266 : lw_tbl[266]? = some (Cond.fieldLink "ShiftedShapes" 58 "ShiftedShapes" "covering" "LShiftedShapes$Covering;") := by decide +kernel
theorem tw_267 : lw_tbl[267]? = some (Cond.fieldLink "ShiftedShapes" 241 "ShiftedShapes" "wholeKnown" "Z") := by decide +kernel
theorem tw_268 : lw_tbl[268]? = some (Cond.fieldLink "ShiftedShapes" 217 "ShiftedShapes" "betterKnown" "Z") := by decide +kernel
theorem tw_269 : lw_tbl[269]? = some (Cond.fieldLink "ShiftedShapes" 224 "ShiftedShapes" "betterCode" "I") := by decide +kernel
theorem tw_270 : lw_tbl[270]? = some (Cond.fieldLink "ShiftedShapes" 227 "ShiftedShapes" "betterGain" "I") := by decide +kernel
theorem tw_671 : lw_tbl[671]? = some (Cond.fieldLink "ShiftedShapesModel" 7 "ShiftedShapesModel" "now" "[I") := by decide +kernel
theorem tw_672 : lw_tbl[672]? = some (Cond.fieldLink "ShiftedShapesModel" 13 "ShiftedShapesModel" "read" "[I") := by decide +kernel
theorem tw_673 : lw_tbl[673]? = some (Cond.fieldLink "ShiftedShapesModel" 16 "ShiftedShapesModel" "aside" "[I") := by decide +kernel
theorem tw_674 : lw_tbl[674]? = some (Cond.fieldLink "ShiftedShapesModel" 19 "ShiftedShapesModel" "past" "[I") := by decide +kernel
theorem tw_675 : lw_tbl[675]? = some (Cond.fieldLink "ShiftedShapesModel" 86 "ShiftedShapesModel" "undos" "I") := by decide +kernel
theorem tw_676 : lw_tbl[676]? = some (Cond.fieldLink "ShiftedShapesModel" 22 "ShiftedShapesModel" "kept" "[I") := by decide +kernel
theorem tw_677 : lw_tbl[677]? = some (Cond.fieldLink "ShiftedShapesModel" 89 "ShiftedShapesModel" "keeps" "I") := by decide +kernel
theorem tw_678 : lw_tbl[678]? = some (Cond.fieldLink "ShiftedShapesModel" 25 "ShiftedShapesModel" "text" "[I") := by decide +kernel
theorem tw_679 : lw_tbl[679]? = some (Cond.fieldLink "ShiftedShapesModel" 61 "ShiftedShapesModel" "length" "I") := by decide +kernel
theorem tw_680 : lw_tbl[680]? = some (Cond.fieldLink "ShiftedShapesModel" 57 "ShiftedShapesModel" "place" "I") := by decide +kernel
theorem tw_681 : lw_tbl[681]? = some (Cond.fieldLink "ShiftedShapesModel" 28 "ShiftedShapesModel" "at" "[I") := by decide +kernel
theorem tw_682 : lw_tbl[682]? = some (Cond.fieldLink "ShiftedShapesModel" 31 "ShiftedShapesModel" "largest" "[I") := by decide +kernel
theorem tw_683 : lw_tbl[683]? = some (Cond.fieldLink "ShiftedShapesModel" 110 "ShiftedShapesModel" "modeNow" "I") := by decide +kernel
theorem tw_684 : lw_tbl[684]? = some (Cond.fieldLink "ShiftedShapesModel" 126 "ShiftedShapesModel" "places" "I") := by decide +kernel
theorem tw_685 : lw_tbl[685]? = some (Cond.fieldLink "ShiftedShapesModel" 129 "ShiftedShapesModel" "cover" "I") := by decide +kernel
theorem tw_686 : lw_tbl[686]? = some (Cond.fieldLink "ShiftedShapesModel" 136 "ShiftedShapesModel" "shapes" "I") := by decide +kernel
theorem tw_687 : lw_tbl[687]? = some (Cond.fieldLink "ShiftedShapesModel" 34 "ShiftedShapesModel" "shape" "[I") := by decide +kernel
theorem tw_688 : lw_tbl[688]? = some (Cond.fieldLink "ShiftedShapesModel" 148 "ShiftedShapesModel" "best" "I") := by decide +kernel
theorem tw_689 : lw_tbl[689]? = some (Cond.fieldLink "ShiftedShapesModel" 151 "ShiftedShapesModel" "bestGain" "I") := by decide +kernel
theorem tw_690 : lw_tbl[690]? = some (Cond.fieldLink "ShiftedShapesModel" 154 "ShiftedShapesModel" "bestCover" "I") := by decide +kernel
theorem tw_691 : lw_tbl[691]? = some (Cond.fieldLink "ShiftedShapesModel" 163 "ShiftedShapesModel" "bestPlaces" "I") := by decide +kernel
theorem tw_692 : lw_tbl[692]? = some (Cond.fieldLink "ShiftedShapesModel" 173 "ShiftedShapesModel" "parts" "I") := by decide +kernel
theorem tw_693 : lw_tbl[693]? = some (Cond.fieldLink "ShiftedShapesModel" 37 "ShiftedShapesModel" "part" "[I") := by decide +kernel
theorem tw_694 : lw_tbl[694]? = some (Cond.fieldLink "ShiftedShapesModel" 176 "ShiftedShapesModel" "rest" "I") := by decide +kernel
theorem tw_695 : lw_tbl[695]? = some (Cond.fieldLink "ShiftedShapesModel" 179 "ShiftedShapesModel" "price" "I") := by decide +kernel
theorem tw_696 : lw_tbl[696]? = some (Cond.fieldLink "ShiftedShapesModel" 40 "ShiftedShapesModel" "few" "[I") := by decide +kernel
theorem tw_697 : lw_tbl[697]? = some (Cond.fieldLink "ShiftedShapesModel" 43 "ShiftedShapesModel" "covers" "[I") := by decide +kernel
theorem tw_238 : lw_tbl[238]? = some (Cond.code yX0_init cX0_init 1 none) := by decide +kernel
theorem tw_77 : lw_tbl[77]? = some (Cond.initialized "ShiftedShapes$Covering") := by decide +kernel
theorem tw_237 : lw_tbl[237]? = some (Cond.instanceMethod yX0_init) := by decide +kernel
theorem tw_602 : lw_tbl[602]? = some (Cond.code yX0_fewestOf cX0_fewestOf 4 (some .int)) := by decide +kernel
theorem tw_601 : lw_tbl[601]? = some (Cond.instanceMethod yX0_fewestOf) := by decide +kernel
theorem tw_44 : lw_tbl[44]? = some (Cond.selects "ShiftedShapes$Covering" yX0_fewestOf yX0_fewestOf) := by decide +kernel
theorem tw_606 : lw_tbl[606]? = some (Cond.code yX0_gather cX0_gather 3 none) := by decide +kernel
theorem tw_605 : lw_tbl[605]? = some (Cond.instanceMethod yX0_gather) := by decide +kernel
theorem tw_45 : lw_tbl[45]? = some (Cond.selects "ShiftedShapes$Covering" yX0_gather yX0_gather) := by decide +kernel
theorem tw_609 : lw_tbl[609]? = some (Cond.code yX0_isWithinAnother cX0_isWithinAnother 6 (some .boolean)) := by decide +kernel
theorem tw_608 : lw_tbl[608]? = some (Cond.static yX0_isWithinAnother) := by decide +kernel
theorem tw_616 : lw_tbl[616]? = some (Cond.code yX0_isReached cX0_isReached 6 (some .boolean)) := by decide +kernel
theorem tw_615 : lw_tbl[615]? = some (Cond.static yX0_isReached) := by decide +kernel
theorem tw_207 : lw_tbl[207]? = some (Cond.code yX1_init cX1_init 1 none) := by decide +kernel
theorem tw_76 : lw_tbl[76]? = some (Cond.initialized "ShiftedShapes$Parting") := by decide +kernel
theorem tw_206 : lw_tbl[206]? = some (Cond.instanceMethod yX1_init) := by decide +kernel
theorem tw_581 : lw_tbl[581]? = some (Cond.code yX1_takeApart cX1_takeApart 6 none) := by decide +kernel
theorem tw_580 : lw_tbl[580]? = some (Cond.instanceMethod yX1_takeApart) := by decide +kernel
theorem tw_42 : lw_tbl[42]? = some (Cond.selects "ShiftedShapes$Parting" yX1_takeApart yX1_takeApart) := by decide +kernel
theorem tw_589 : lw_tbl[589]? = some (Cond.code yX1_setAside cX1_setAside 3 none) := by decide +kernel
theorem tw_588 : lw_tbl[588]? = some (Cond.instanceMethod yX1_setAside) := by decide +kernel
theorem tw_43 : lw_tbl[43]? = some (Cond.selects "ShiftedShapes$Parting" yX1_setAside yX1_setAside) := by decide +kernel
theorem tw_112 : lw_tbl[112]? = some (Cond.code yX2_init cX2_init 1 none) := by decide +kernel
theorem tw_72 : lw_tbl[72]? = some (Cond.initialized "ShiftedShapes$Piece") := by decide +kernel
theorem tw_111 : lw_tbl[111]? = some (Cond.instanceMethod yX2_init) := by decide +kernel
theorem tw_378 : lw_tbl[378]? = some (Cond.code yX2_timeOf cX2_timeOf 2 (some .int)) := by decide +kernel
theorem tw_377 : lw_tbl[377]? = some (Cond.instanceMethod yX2_timeOf) := by decide +kernel
theorem tw_13 : lw_tbl[13]? = some (Cond.selects "ShiftedShapes$Piece" yX2_timeOf yX2_timeOf) := by decide +kernel
theorem tw_382 : lw_tbl[382]? = some (Cond.code yX2_pitchOf cX2_pitchOf 2 (some .int)) := by decide +kernel
theorem tw_381 : lw_tbl[381]? = some (Cond.instanceMethod yX2_pitchOf) := by decide +kernel
theorem tw_14 : lw_tbl[14]? = some (Cond.selects "ShiftedShapes$Piece" yX2_pitchOf yX2_pitchOf) := by decide +kernel
theorem tw_457 : lw_tbl[457]? = some (Cond.code yX2_allNotes cX2_allNotes 1 (some .int)) := by decide +kernel
theorem tw_456 : lw_tbl[456]? = some (Cond.instanceMethod yX2_allNotes) := by decide +kernel
theorem tw_25 : lw_tbl[25]? = some (Cond.selects "ShiftedShapes$Piece" yX2_allNotes yX2_allNotes) := by decide +kernel
theorem tw_346 : lw_tbl[346]? = some (Cond.code yX2_numberOf cX2_numberOf 3 (some .int)) := by decide +kernel
theorem tw_345 : lw_tbl[345]? = some (Cond.instanceMethod yX2_numberOf) := by decide +kernel
theorem tw_8 : lw_tbl[8]? = some (Cond.selects "ShiftedShapes$Piece" yX2_numberOf yX2_numberOf) := by decide +kernel
theorem tw_257 : lw_tbl[257]? = some (Cond.code yX2_insert cX2_insert 3 (some .int)) := by decide +kernel
theorem tw_256 : lw_tbl[256]? = some (Cond.instanceMethod yX2_insert) := by decide +kernel
theorem tw_0 : lw_tbl[0]? = some (Cond.selects "ShiftedShapes$Piece" yX2_insert yX2_insert) := by decide +kernel
theorem tw_409 : lw_tbl[409]? = some (Cond.code yX2_remove cX2_remove 3 none) := by decide +kernel
theorem tw_408 : lw_tbl[408]? = some (Cond.instanceMethod yX2_remove) := by decide +kernel
theorem tw_18 : lw_tbl[18]? = some (Cond.selects "ShiftedShapes$Piece" yX2_remove yX2_remove) := by decide +kernel
theorem tw_433 : lw_tbl[433]? = some (Cond.code yX2_moveAll cX2_moveAll 3 none) := by decide +kernel
theorem tw_432 : lw_tbl[432]? = some (Cond.instanceMethod yX2_moveAll) := by decide +kernel
theorem tw_22 : lw_tbl[22]? = some (Cond.selects "ShiftedShapes$Piece" yX2_moveAll yX2_moveAll) := by decide +kernel
theorem tw_359 : lw_tbl[359]? = some (Cond.code yX2_copyFrom cX2_copyFrom 2 none) := by decide +kernel
theorem tw_358 : lw_tbl[358]? = some (Cond.instanceMethod yX2_copyFrom) := by decide +kernel
theorem tw_10 : lw_tbl[10]? = some (Cond.selects "ShiftedShapes$Piece" yX2_copyFrom yX2_copyFrom) := by decide +kernel
theorem tw_134 : lw_tbl[134]? = some (Cond.code yX3_init cX3_init 3 none) := by decide +kernel
theorem tw_73 : lw_tbl[73]? = some (Cond.initialized "ShiftedShapes$Pile") := by decide +kernel
theorem tw_133 : lw_tbl[133]? = some (Cond.instanceMethod yX3_init) := by decide +kernel
theorem tw_396 : lw_tbl[396]? = some (Cond.code yX3_push cX3_push 2 none) := by decide +kernel
theorem tw_395 : lw_tbl[395]? = some (Cond.instanceMethod yX3_push) := by decide +kernel
theorem tw_16 : lw_tbl[16]? = some (Cond.selects "ShiftedShapes$Pile" yX3_push yX3_push) := by decide +kernel
theorem tw_445 : lw_tbl[445]? = some (Cond.code yX3_popInto cX3_popInto 2 none) := by decide +kernel
theorem tw_444 : lw_tbl[444]? = some (Cond.instanceMethod yX3_popInto) := by decide +kernel
theorem tw_23 : lw_tbl[23]? = some (Cond.selects "ShiftedShapes$Pile" yX3_popInto yX3_popInto) := by decide +kernel
theorem tw_400 : lw_tbl[400]? = some (Cond.code yX3_dropOldest cX3_dropOldest 3 none) := by decide +kernel
theorem tw_399 : lw_tbl[399]? = some (Cond.instanceMethod yX3_dropOldest) := by decide +kernel
theorem tw_17 : lw_tbl[17]? = some (Cond.selects "ShiftedShapes$Pile" yX3_dropOldest yX3_dropOldest) := by decide +kernel
theorem tw_94 : lw_tbl[94]? = some (Cond.code yX4_init cX4_init 1 none) := by decide +kernel
theorem tw_71 : lw_tbl[71]? = some (Cond.initialized "ShiftedShapes$Script") := by decide +kernel
theorem tw_93 : lw_tbl[93]? = some (Cond.instanceMethod yX4_init) := by decide +kernel
theorem tw_305 : lw_tbl[305]? = some (Cond.code yX4_append cX4_append 2 (some .boolean)) := by decide +kernel
theorem tw_304 : lw_tbl[304]? = some (Cond.instanceMethod yX4_append) := by decide +kernel
theorem tw_1 : lw_tbl[1]? = some (Cond.selects "ShiftedShapes$Script" yX4_append yX4_append) := by decide +kernel
theorem tw_317 : lw_tbl[317]? = some (Cond.code yX4_readInto cX4_readInto 4 (some .int)) := by decide +kernel
theorem tw_316 : lw_tbl[316]? = some (Cond.instanceMethod yX4_readInto) := by decide +kernel
theorem tw_2 : lw_tbl[2]? = some (Cond.selects "ShiftedShapes$Script" yX4_readInto yX4_readInto) := by decide +kernel
theorem tw_321 : lw_tbl[321]? = some (Cond.code yX4_readItem cX4_readItem 2 (some .boolean)) := by decide +kernel
theorem tw_320 : lw_tbl[320]? = some (Cond.instanceMethod yX4_readItem) := by decide +kernel
theorem tw_3 : lw_tbl[3]? = some (Cond.selects "ShiftedShapes$Script" yX4_readItem yX4_readItem) := by decide +kernel
theorem tw_329 : lw_tbl[329]? = some (Cond.code yX4_readNote cX4_readNote 4 (some .boolean)) := by decide +kernel
theorem tw_328 : lw_tbl[328]? = some (Cond.instanceMethod yX4_readNote) := by decide +kernel
theorem tw_5 : lw_tbl[5]? = some (Cond.selects "ShiftedShapes$Script" yX4_readNote yX4_readNote) := by decide +kernel
theorem tw_351 : lw_tbl[351]? = some (Cond.code yX4_readManner cX4_readManner 3 (some .boolean)) := by decide +kernel
theorem tw_350 : lw_tbl[350]? = some (Cond.instanceMethod yX4_readManner) := by decide +kernel
theorem tw_9 : lw_tbl[9]? = some (Cond.selects "ShiftedShapes$Script" yX4_readManner yX4_readManner) := by decide +kernel
theorem tw_333 : lw_tbl[333]? = some (Cond.code yX4_readNumber cX4_readNumber 3 (some .int)) := by decide +kernel
theorem tw_332 : lw_tbl[332]? = some (Cond.instanceMethod yX4_readNumber) := by decide +kernel
theorem tw_6 : lw_tbl[6]? = some (Cond.selects "ShiftedShapes$Script" yX4_readNumber yX4_readNumber) := by decide +kernel
theorem tw_337 : lw_tbl[337]? = some (Cond.code yX4_isFigure cX4_isFigure 1 (some .boolean)) := by decide +kernel
theorem tw_336 : lw_tbl[336]? = some (Cond.instanceMethod yX4_isFigure) := by decide +kernel
theorem tw_7 : lw_tbl[7]? = some (Cond.selects "ShiftedShapes$Script" yX4_isFigure yX4_isFigure) := by decide +kernel
theorem tw_325 : lw_tbl[325]? = some (Cond.code yX4_skip cX4_skip 2 (some .boolean)) := by decide +kernel
theorem tw_324 : lw_tbl[324]? = some (Cond.instanceMethod yX4_skip) := by decide +kernel
theorem tw_4 : lw_tbl[4]? = some (Cond.selects "ShiftedShapes$Script" yX4_skip yX4_skip) := by decide +kernel
theorem tw_154 : lw_tbl[154]? = some (Cond.code yX5_init cX5_init 1 none) := by decide +kernel
theorem tw_75 : lw_tbl[75]? = some (Cond.initialized "ShiftedShapes$Search") := by decide +kernel
theorem tw_153 : lw_tbl[153]? = some (Cond.instanceMethod yX5_init) := by decide +kernel
theorem tw_461 : lw_tbl[461]? = some (Cond.code yX5_lookOver cX5_lookOver 4 none) := by decide +kernel
theorem tw_460 : lw_tbl[460]? = some (Cond.instanceMethod yX5_lookOver) := by decide +kernel
theorem tw_26 : lw_tbl[26]? = some (Cond.selects "ShiftedShapes$Search" yX5_lookOver yX5_lookOver) := by decide +kernel
theorem tw_470 : lw_tbl[470]? = some (Cond.code yX5_has cX5_has 2 (some .boolean)) := by decide +kernel
theorem tw_469 : lw_tbl[469]? = some (Cond.static yX5_has) := by decide +kernel
theorem tw_499 : lw_tbl[499]? = some (Cond.code yX5_hasTwo cX5_hasTwo 1 (some .boolean)) := by decide +kernel
theorem tw_498 : lw_tbl[498]? = some (Cond.static yX5_hasTwo) := by decide +kernel
theorem tw_492 : lw_tbl[492]? = some (Cond.code yX5_shiftOf cX5_shiftOf 2 (some .int)) := by decide +kernel
theorem tw_491 : lw_tbl[491]? = some (Cond.static yX5_shiftOf) := by decide +kernel
theorem tw_514 : lw_tbl[514]? = some (Cond.code yX5_timePart cX5_timePart 1 (some .int)) := by decide +kernel
theorem tw_513 : lw_tbl[513]? = some (Cond.static yX5_timePart) := by decide +kernel
theorem tw_517 : lw_tbl[517]? = some (Cond.code yX5_pitchPart cX5_pitchPart 1 (some .int)) := by decide +kernel
theorem tw_516 : lw_tbl[516]? = some (Cond.static yX5_pitchPart) := by decide +kernel
theorem tw_475 : lw_tbl[475]? = some (Cond.code yX5_findLargests cX5_findLargests 3 none) := by decide +kernel
theorem tw_474 : lw_tbl[474]? = some (Cond.instanceMethod yX5_findLargests) := by decide +kernel
theorem tw_27 : lw_tbl[27]? = some (Cond.selects "ShiftedShapes$Search" yX5_findLargests yX5_findLargests) := by decide +kernel
theorem tw_479 : lw_tbl[479]? = some (Cond.code yX5_enterPair cX5_enterPair 5 none) := by decide +kernel
theorem tw_478 : lw_tbl[478]? = some (Cond.instanceMethod yX5_enterPair) := by decide +kernel
theorem tw_28 : lw_tbl[28]? = some (Cond.selects "ShiftedShapes$Search" yX5_enterPair yX5_enterPair) := by decide +kernel
theorem tw_486 : lw_tbl[486]? = some (Cond.code yX5_enter cX5_enter 4 none) := by decide +kernel
theorem tw_485 : lw_tbl[485]? = some (Cond.instanceMethod yX5_enter) := by decide +kernel
theorem tw_29 : lw_tbl[29]? = some (Cond.selects "ShiftedShapes$Search" yX5_enter yX5_enter) := by decide +kernel
theorem tw_489 : lw_tbl[489]? = some (Cond.code yX5_isHeld cX5_isHeld 2 (some .boolean)) := by decide +kernel
theorem tw_488 : lw_tbl[488]? = some (Cond.static yX5_isHeld) := by decide +kernel
theorem tw_496 : lw_tbl[496]? = some (Cond.code yX5_findWideShifts cX5_findWideShifts 2 none) := by decide +kernel
theorem tw_495 : lw_tbl[495]? = some (Cond.instanceMethod yX5_findWideShifts) := by decide +kernel
theorem tw_30 : lw_tbl[30]? = some (Cond.selects "ShiftedShapes$Search" yX5_findWideShifts yX5_findWideShifts) := by decide +kernel
theorem tw_503 : lw_tbl[503]? = some (Cond.code yX5_findShapes cX5_findShapes 3 none) := by decide +kernel
theorem tw_502 : lw_tbl[502]? = some (Cond.instanceMethod yX5_findShapes) := by decide +kernel
theorem tw_31 : lw_tbl[31]? = some (Cond.selects "ShiftedShapes$Search" yX5_findShapes yX5_findShapes) := by decide +kernel
theorem tw_507 : lw_tbl[507]? = some (Cond.code yX5_isShape cX5_isShape 3 (some .boolean)) := by decide +kernel
theorem tw_506 : lw_tbl[506]? = some (Cond.instanceMethod yX5_isShape) := by decide +kernel
theorem tw_32 : lw_tbl[32]? = some (Cond.selects "ShiftedShapes$Search" yX5_isShape yX5_isShape) := by decide +kernel
theorem tw_511 : lw_tbl[511]? = some (Cond.code yX5_measureShape cX5_measureShape 9 none) := by decide +kernel
theorem tw_510 : lw_tbl[510]? = some (Cond.instanceMethod yX5_measureShape) := by decide +kernel
theorem tw_33 : lw_tbl[33]? = some (Cond.selects "ShiftedShapes$Search" yX5_measureShape yX5_measureShape) := by decide +kernel
theorem tw_521 : lw_tbl[521]? = some (Cond.code yX5_met cX5_met 7 (some .int)) := by decide +kernel
theorem tw_520 : lw_tbl[520]? = some (Cond.instanceMethod yX5_met) := by decide +kernel
theorem tw_34 : lw_tbl[34]? = some (Cond.selects "ShiftedShapes$Search" yX5_met yX5_met) := by decide +kernel
theorem tw_525 : lw_tbl[525]? = some (Cond.code yX5_numberAt cX5_numberAt 3 (some .int)) := by decide +kernel
theorem tw_524 : lw_tbl[524]? = some (Cond.instanceMethod yX5_numberAt) := by decide +kernel
theorem tw_35 : lw_tbl[35]? = some (Cond.selects "ShiftedShapes$Search" yX5_numberAt yX5_numberAt) := by decide +kernel
theorem tw_529 : lw_tbl[529]? = some (Cond.code yX5_largestOf cX5_largestOf 3 (some .int)) := by decide +kernel
theorem tw_528 : lw_tbl[528]? = some (Cond.instanceMethod yX5_largestOf) := by decide +kernel
theorem tw_36 : lw_tbl[36]? = some (Cond.selects "ShiftedShapes$Search" yX5_largestOf yX5_largestOf) := by decide +kernel
theorem tw_556 : lw_tbl[556]? = some (Cond.code yX5_placesOf cX5_placesOf 4 (some .int)) := by decide +kernel
theorem tw_555 : lw_tbl[555]? = some (Cond.instanceMethod yX5_placesOf) := by decide +kernel
theorem tw_38 : lw_tbl[38]? = some (Cond.selects "ShiftedShapes$Search" yX5_placesOf yX5_placesOf) := by decide +kernel
theorem tw_560 : lw_tbl[560]? = some (Cond.code yX5_placeOf cX5_placeOf 5 (some .int)) := by decide +kernel
theorem tw_559 : lw_tbl[559]? = some (Cond.instanceMethod yX5_placeOf) := by decide +kernel
theorem tw_39 : lw_tbl[39]? = some (Cond.selects "ShiftedShapes$Search" yX5_placeOf yX5_placeOf) := by decide +kernel
theorem tw_542 : lw_tbl[542]? = some (Cond.code yX5_gainOf cX5_gainOf 2 (some .int)) := by decide +kernel
theorem tw_541 : lw_tbl[541]? = some (Cond.instanceMethod yX5_gainOf) := by decide +kernel
theorem tw_37 : lw_tbl[37]? = some (Cond.selects "ShiftedShapes$Search" yX5_gainOf yX5_gainOf) := by decide +kernel
theorem tw_568 : lw_tbl[568]? = some (Cond.code yX5_bestShape cX5_bestShape 3 (some .int)) := by decide +kernel
theorem tw_567 : lw_tbl[567]? = some (Cond.instanceMethod yX5_bestShape) := by decide +kernel
theorem tw_40 : lw_tbl[40]? = some (Cond.selects "ShiftedShapes$Search" yX5_bestShape yX5_bestShape) := by decide +kernel
theorem tw_572 : lw_tbl[572]? = some (Cond.code yX5_isBetter cX5_isBetter 5 (some .boolean)) := by decide +kernel
theorem tw_571 : lw_tbl[571]? = some (Cond.instanceMethod yX5_isBetter) := by decide +kernel
theorem tw_41 : lw_tbl[41]? = some (Cond.selects "ShiftedShapes$Search" yX5_isBetter yX5_isBetter) := by decide +kernel
theorem tw_613 : lw_tbl[613]? = some (Cond.code yX5_covered cX5_covered 3 (some .int)) := by decide +kernel
theorem tw_612 : lw_tbl[612]? = some (Cond.instanceMethod yX5_covered) := by decide +kernel
theorem tw_46 : lw_tbl[46]? = some (Cond.selects "ShiftedShapes$Search" yX5_covered yX5_covered) := by decide +kernel
theorem tw_86 : lw_tbl[86]? = some (Cond.code yX6_init cX6_init 2 none) := by decide +kernel
theorem tw_70 : lw_tbl[70]? = some (Cond.initialized "ShiftedShapes") := by decide +kernel
theorem tw_85 : lw_tbl[85]? = some (Cond.instanceMethod yX6_init) := by decide +kernel
theorem tw_301 : lw_tbl[301]? = some (Cond.code yX6_write cX6_write 2 (some .int)) := by decide +kernel
theorem tw_299 : lw_tbl[299]? = some (Cond.instanceMethod yX6_write) := by decide +kernel
theorem tw_300 : lw_tbl[300]? = some (Cond.selects "ShiftedShapes" yX6_write yX6_write) := by decide +kernel
theorem tw_309 : lw_tbl[309]? = some (Cond.code yX6_wipe cX6_wipe 2 (some .int)) := by decide +kernel
theorem tw_307 : lw_tbl[307]? = some (Cond.instanceMethod yX6_wipe) := by decide +kernel
theorem tw_308 : lw_tbl[308]? = some (Cond.selects "ShiftedShapes" yX6_wipe yX6_wipe) := by decide +kernel
theorem tw_313 : lw_tbl[313]? = some (Cond.code yX6_fault cX6_fault 1 (some .int)) := by decide +kernel
theorem tw_311 : lw_tbl[311]? = some (Cond.instanceMethod yX6_fault) := by decide +kernel
theorem tw_312 : lw_tbl[312]? = some (Cond.selects "ShiftedShapes" yX6_fault yX6_fault) := by decide +kernel
theorem tw_355 : lw_tbl[355]? = some (Cond.code yX6_lay cX6_lay 1 (some .int)) := by decide +kernel
theorem tw_353 : lw_tbl[353]? = some (Cond.instanceMethod yX6_lay) := by decide +kernel
theorem tw_354 : lw_tbl[354]? = some (Cond.selects "ShiftedShapes" yX6_lay yX6_lay) := by decide +kernel
theorem tw_370 : lw_tbl[370]? = some (Cond.code yX6_note cX6_note 3 (some .int)) := by decide +kernel
theorem tw_368 : lw_tbl[368]? = some (Cond.instanceMethod yX6_note) := by decide +kernel
theorem tw_369 : lw_tbl[369]? = some (Cond.selects "ShiftedShapes" yX6_note yX6_note) := by decide +kernel
theorem tw_386 : lw_tbl[386]? = some (Cond.code yX6_put cX6_put 3 (some .int)) := by decide +kernel
theorem tw_384 : lw_tbl[384]? = some (Cond.instanceMethod yX6_put) := by decide +kernel
theorem tw_385 : lw_tbl[385]? = some (Cond.selects "ShiftedShapes" yX6_put yX6_put) := by decide +kernel
theorem tw_405 : lw_tbl[405]? = some (Cond.code yX6_take cX6_take 2 (some .int)) := by decide +kernel
theorem tw_403 : lw_tbl[403]? = some (Cond.instanceMethod yX6_take) := by decide +kernel
theorem tw_404 : lw_tbl[404]? = some (Cond.selects "ShiftedShapes" yX6_take yX6_take) := by decide +kernel
theorem tw_413 : lw_tbl[413]? = some (Cond.code yX6_shift cX6_shift 5 (some .int)) := by decide +kernel
theorem tw_411 : lw_tbl[411]? = some (Cond.instanceMethod yX6_shift) := by decide +kernel
theorem tw_412 : lw_tbl[412]? = some (Cond.selects "ShiftedShapes" yX6_shift yX6_shift) := by decide +kernel
theorem tw_429 : lw_tbl[429]? = some (Cond.code yX6_shiftAll cX6_shiftAll 4 (some .int)) := by decide +kernel
theorem tw_427 : lw_tbl[427]? = some (Cond.instanceMethod yX6_shiftAll) := by decide +kernel
theorem tw_428 : lw_tbl[428]? = some (Cond.selects "ShiftedShapes" yX6_shiftAll yX6_shiftAll) := by decide +kernel
theorem tw_437 : lw_tbl[437]? = some (Cond.code yX6_mode cX6_mode 3 (some .int)) := by decide +kernel
theorem tw_435 : lw_tbl[435]? = some (Cond.instanceMethod yX6_mode) := by decide +kernel
theorem tw_436 : lw_tbl[436]? = some (Cond.selects "ShiftedShapes" yX6_mode yX6_mode) := by decide +kernel
theorem tw_441 : lw_tbl[441]? = some (Cond.code yX6_undo cX6_undo 1 (some .int)) := by decide +kernel
theorem tw_439 : lw_tbl[439]? = some (Cond.instanceMethod yX6_undo) := by decide +kernel
theorem tw_440 : lw_tbl[440]? = some (Cond.selects "ShiftedShapes" yX6_undo yX6_undo) := by decide +kernel
theorem tw_449 : lw_tbl[449]? = some (Cond.code yX6_largest cX6_largest 3 (some .int)) := by decide +kernel
theorem tw_447 : lw_tbl[447]? = some (Cond.instanceMethod yX6_largest) := by decide +kernel
theorem tw_448 : lw_tbl[448]? = some (Cond.selects "ShiftedShapes" yX6_largest yX6_largest) := by decide +kernel
theorem tw_533 : lw_tbl[533]? = some (Cond.code yX6_meets cX6_meets 4 (some .int)) := by decide +kernel
theorem tw_531 : lw_tbl[531]? = some (Cond.instanceMethod yX6_meets) := by decide +kernel
theorem tw_532 : lw_tbl[532]? = some (Cond.selects "ShiftedShapes" yX6_meets yX6_meets) := by decide +kernel
theorem tw_538 : lw_tbl[538]? = some (Cond.code yX6_shape cX6_shape 4 (some .int)) := by decide +kernel
theorem tw_536 : lw_tbl[536]? = some (Cond.instanceMethod yX6_shape) := by decide +kernel
theorem tw_537 : lw_tbl[537]? = some (Cond.selects "ShiftedShapes" yX6_shape yX6_shape) := by decide +kernel
theorem tw_552 : lw_tbl[552]? = some (Cond.code yX6_place cX6_place 3 (some .int)) := by decide +kernel
theorem tw_550 : lw_tbl[550]? = some (Cond.instanceMethod yX6_place) := by decide +kernel
theorem tw_551 : lw_tbl[551]? = some (Cond.selects "ShiftedShapes" yX6_place yX6_place) := by decide +kernel
theorem tw_564 : lw_tbl[564]? = some (Cond.code yX6_best cX6_best 3 (some .int)) := by decide +kernel
theorem tw_562 : lw_tbl[562]? = some (Cond.instanceMethod yX6_best) := by decide +kernel
theorem tw_563 : lw_tbl[563]? = some (Cond.selects "ShiftedShapes" yX6_best yX6_best) := by decide +kernel
theorem tw_577 : lw_tbl[577]? = some (Cond.code yX6_parted cX6_parted 3 (some .int)) := by decide +kernel
theorem tw_575 : lw_tbl[575]? = some (Cond.instanceMethod yX6_parted) := by decide +kernel
theorem tw_576 : lw_tbl[576]? = some (Cond.selects "ShiftedShapes" yX6_parted yX6_parted) := by decide +kernel
theorem tw_594 : lw_tbl[594]? = some (Cond.code yX6_parting cX6_parting 2 (some .int)) := by decide +kernel
theorem tw_592 : lw_tbl[592]? = some (Cond.instanceMethod yX6_parting) := by decide +kernel
theorem tw_593 : lw_tbl[593]? = some (Cond.selects "ShiftedShapes" yX6_parting yX6_parting) := by decide +kernel
theorem tw_598 : lw_tbl[598]? = some (Cond.code yX6_shapes cX6_shapes 2 (some .int)) := by decide +kernel
theorem tw_596 : lw_tbl[596]? = some (Cond.instanceMethod yX6_shapes) := by decide +kernel
theorem tw_597 : lw_tbl[597]? = some (Cond.selects "ShiftedShapes" yX6_shapes yX6_shapes) := by decide +kernel
theorem tw_621 : lw_tbl[621]? = some (Cond.code yX6_link cX6_link 6 (some .int)) := by decide +kernel
theorem tw_619 : lw_tbl[619]? = some (Cond.instanceMethod yX6_link) := by decide +kernel
theorem tw_620 : lw_tbl[620]? = some (Cond.selects "ShiftedShapes" yX6_link yX6_link) := by decide +kernel
theorem tw_627 : lw_tbl[627]? = some (Cond.code yX6_better cX6_better 2 (some .int)) := by decide +kernel
theorem tw_625 : lw_tbl[625]? = some (Cond.instanceMethod yX6_better) := by decide +kernel
theorem tw_626 : lw_tbl[626]? = some (Cond.selects "ShiftedShapes" yX6_better yX6_better) := by decide +kernel
theorem tw_635 : lw_tbl[635]? = some (Cond.code yX6_day cX6_day 5 (some .int)) := by decide +kernel
theorem tw_633 : lw_tbl[633]? = some (Cond.instanceMethod yX6_day) := by decide +kernel
theorem tw_634 : lw_tbl[634]? = some (Cond.selects "ShiftedShapes" yX6_day yX6_day) := by decide +kernel
theorem tw_646 : lw_tbl[646]? = some (Cond.code yX6_keep cX6_keep 1 (some .int)) := by decide +kernel
theorem tw_644 : lw_tbl[644]? = some (Cond.instanceMethod yX6_keep) := by decide +kernel
theorem tw_645 : lw_tbl[645]? = some (Cond.selects "ShiftedShapes" yX6_keep yX6_keep) := by decide +kernel
theorem tw_650 : lw_tbl[650]? = some (Cond.code yX6_back cX6_back 1 (some .int)) := by decide +kernel
theorem tw_648 : lw_tbl[648]? = some (Cond.instanceMethod yX6_back) := by decide +kernel
theorem tw_649 : lw_tbl[649]? = some (Cond.selects "ShiftedShapes" yX6_back yX6_back) := by decide +kernel
theorem tw_654 : lw_tbl[654]? = some (Cond.code yX6_count cX6_count 2 (some .int)) := by decide +kernel
theorem tw_652 : lw_tbl[652]? = some (Cond.instanceMethod yX6_count) := by decide +kernel
theorem tw_653 : lw_tbl[653]? = some (Cond.selects "ShiftedShapes" yX6_count yX6_count) := by decide +kernel
theorem tw_392 : lw_tbl[392]? = some (Cond.code yX6_beginAct cX6_beginAct 1 none) := by decide +kernel
theorem tw_391 : lw_tbl[391]? = some (Cond.instanceMethod yX6_beginAct) := by decide +kernel
theorem tw_15 : lw_tbl[15]? = some (Cond.selects "ShiftedShapes" yX6_beginAct yX6_beginAct) := by decide +kernel
theorem tw_366 : lw_tbl[366]? = some (Cond.code yX6_forgetFindings cX6_forgetFindings 1 none) := by decide +kernel
theorem tw_365 : lw_tbl[365]? = some (Cond.instanceMethod yX6_forgetFindings) := by decide +kernel
theorem tw_11 : lw_tbl[11]? = some (Cond.selects "ShiftedShapes" yX6_forgetFindings yX6_forgetFindings) := by decide +kernel
theorem tw_453 : lw_tbl[453]? = some (Cond.code yX6_wholeSearch cX6_wholeSearch 1 (some (.object "ShiftedShapes$Search"))) := by decide +kernel
theorem tw_452 : lw_tbl[452]? = some (Cond.instanceMethod yX6_wholeSearch) := by decide +kernel
theorem tw_24 : lw_tbl[24]? = some (Cond.selects "ShiftedShapes" yX6_wholeSearch yX6_wholeSearch) := by decide +kernel
theorem tw_631 : lw_tbl[631]? = some (Cond.code yX6_findBetter cX6_findBetter 4 none) := by decide +kernel
theorem tw_630 : lw_tbl[630]? = some (Cond.instanceMethod yX6_findBetter) := by decide +kernel
theorem tw_47 : lw_tbl[47]? = some (Cond.selects "ShiftedShapes" yX6_findBetter yX6_findBetter) := by decide +kernel
theorem tw_639 : lw_tbl[639]? = some (Cond.code yX6_drawOnce cX6_drawOnce 8 none) := by decide +kernel
theorem tw_638 : lw_tbl[638]? = some (Cond.instanceMethod yX6_drawOnce) := by decide +kernel
theorem tw_48 : lw_tbl[48]? = some (Cond.selects "ShiftedShapes" yX6_drawOnce yX6_drawOnce) := by decide +kernel
theorem tw_374 : lw_tbl[374]? = some (Cond.code yX6_isNote cX6_isNote 2 (some .boolean)) := by decide +kernel
theorem tw_373 : lw_tbl[373]? = some (Cond.instanceMethod yX6_isNote) := by decide +kernel
theorem tw_12 : lw_tbl[12]? = some (Cond.selects "ShiftedShapes" yX6_isNote yX6_isNote) := by decide +kernel
theorem tw_421 : lw_tbl[421]? = some (Cond.code yX6_isShift cX6_isShift 4 (some .boolean)) := by decide +kernel
theorem tw_420 : lw_tbl[420]? = some (Cond.instanceMethod yX6_isShift) := by decide +kernel
theorem tw_20 : lw_tbl[20]? = some (Cond.selects "ShiftedShapes" yX6_isShift yX6_isShift) := by decide +kernel
theorem tw_417 : lw_tbl[417]? = some (Cond.code yX6_isMove cX6_isMove 3 (some .boolean)) := by decide +kernel
theorem tw_416 : lw_tbl[416]? = some (Cond.instanceMethod yX6_isMove) := by decide +kernel
theorem tw_19 : lw_tbl[19]? = some (Cond.selects "ShiftedShapes" yX6_isMove yX6_isMove) := by decide +kernel
theorem tw_425 : lw_tbl[425]? = some (Cond.code yX6_staysWithin cX6_staysWithin 4 (some .boolean)) := by decide +kernel
theorem tw_424 : lw_tbl[424]? = some (Cond.instanceMethod yX6_staysWithin) := by decide +kernel
theorem tw_21 : lw_tbl[21]? = some (Cond.selects "ShiftedShapes" yX6_staysWithin yX6_staysWithin) := by decide +kernel
theorem tw_341 : lw_tbl[341]? = some (Cond.code yX6_isWithin cX6_isWithin 2 (some .boolean)) := by decide +kernel
theorem tw_340 : lw_tbl[340]? = some (Cond.static yX6_isWithin) := by decide +kernel
theorem tw_253 : lw_tbl[253]? = some (Cond.code yX6_codeOf cX6_codeOf 2 (some .int)) := by decide +kernel
theorem tw_252 : lw_tbl[252]? = some (Cond.static yX6_codeOf) := by decide +kernel
theorem tw_659 : lw_tbl[659]? = some (Cond.code yX7_init cX7_init 1 none) := by decide +kernel
theorem tw_78 : lw_tbl[78]? = some (Cond.initialized "ShiftedShapesModel") := by decide +kernel
theorem tw_658 : lw_tbl[658]? = some (Cond.instanceMethod yX7_init) := by decide +kernel
theorem tw_664 : lw_tbl[664]? = some (Cond.code yX7_begins cX7_begins 1 none) := by decide +kernel
theorem tw_663 : lw_tbl[663]? = some (Cond.instanceMethod yX7_begins) := by decide +kernel
theorem tw_49 : lw_tbl[49]? = some (Cond.selects "ShiftedShapesModel" yX7_begins yX7_begins) := by decide +kernel
theorem tw_759 : lw_tbl[759]? = some (Cond.code yX7_in cX7_in 3 (some .boolean)) := by decide +kernel
theorem tw_758 : lw_tbl[758]? = some (Cond.static yX7_in) := by decide +kernel
theorem tw_850 : lw_tbl[850]? = some (Cond.code yX7_has cX7_has 2 (some .boolean)) := by decide +kernel
theorem tw_849 : lw_tbl[849]? = some (Cond.static yX7_has) := by decide +kernel
theorem tw_877 : lw_tbl[877]? = some (Cond.code yX7_bits cX7_bits 3 (some .int)) := by decide +kernel
theorem tw_876 : lw_tbl[876]? = some (Cond.static yX7_bits) := by decide +kernel
theorem tw_670 : lw_tbl[670]? = some (Cond.code yX7_copies cX7_copies 5 none) := by decide +kernel
theorem tw_669 : lw_tbl[669]? = some (Cond.static yX7_copies) := by decide +kernel
theorem tw_786 : lw_tbl[786]? = some (Cond.code yX7_numberOf cX7_numberOf 4 (some .int)) := by decide +kernel
theorem tw_785 : lw_tbl[785]? = some (Cond.static yX7_numberOf) := by decide +kernel
theorem tw_667 : lw_tbl[667]? = some (Cond.code yX7_puts cX7_puts 4 (some .int)) := by decide +kernel
theorem tw_666 : lw_tbl[666]? = some (Cond.static yX7_puts) := by decide +kernel
theorem tw_816 : lw_tbl[816]? = some (Cond.code yX7_leaves cX7_leaves 3 none) := by decide +kernel
theorem tw_815 : lw_tbl[815]? = some (Cond.static yX7_leaves) := by decide +kernel
theorem tw_779 : lw_tbl[779]? = some (Cond.code yX7_here cX7_here 1 (some .int)) := by decide +kernel
theorem tw_778 : lw_tbl[778]? = some (Cond.instanceMethod yX7_here) := by decide +kernel
theorem tw_52 : lw_tbl[52]? = some (Cond.selects "ShiftedShapesModel" yX7_here yX7_here) := by decide +kernel
theorem tw_783 : lw_tbl[783]? = some (Cond.code yX7_number cX7_number 5 (some .int)) := by decide +kernel
theorem tw_782 : lw_tbl[782]? = some (Cond.instanceMethod yX7_number) := by decide +kernel
theorem tw_53 : lw_tbl[53]? = some (Cond.selects "ShiftedShapesModel" yX7_number yX7_number) := by decide +kernel
theorem tw_775 : lw_tbl[775]? = some (Cond.code yX7_readsItem cX7_readsItem 4 (some .boolean)) := by decide +kernel
theorem tw_774 : lw_tbl[774]? = some (Cond.instanceMethod yX7_readsItem) := by decide +kernel
theorem tw_51 : lw_tbl[51]? = some (Cond.selects "ShiftedShapesModel" yX7_readsItem yX7_readsItem) := by decide +kernel
theorem tw_771 : lw_tbl[771]? = some (Cond.code yX7_reading cX7_reading 2 (some .int)) := by decide +kernel
theorem tw_770 : lw_tbl[770]? = some (Cond.instanceMethod yX7_reading) := by decide +kernel
theorem tw_50 : lw_tbl[50]? = some (Cond.selects "ShiftedShapesModel" yX7_reading yX7_reading) := by decide +kernel
theorem tw_756 : lw_tbl[756]? = some (Cond.code yX7_write cX7_write 2 (some .int)) := by decide +kernel
theorem tw_754 : lw_tbl[754]? = some (Cond.instanceMethod yX7_write) := by decide +kernel
theorem tw_755 : lw_tbl[755]? = some (Cond.selects "ShiftedShapesModel" yX7_write yX7_write) := by decide +kernel
theorem tw_763 : lw_tbl[763]? = some (Cond.code yX7_wipe cX7_wipe 2 (some .int)) := by decide +kernel
theorem tw_761 : lw_tbl[761]? = some (Cond.instanceMethod yX7_wipe) := by decide +kernel
theorem tw_762 : lw_tbl[762]? = some (Cond.selects "ShiftedShapesModel" yX7_wipe yX7_wipe) := by decide +kernel
theorem tw_767 : lw_tbl[767]? = some (Cond.code yX7_fault cX7_fault 1 (some .int)) := by decide +kernel
theorem tw_765 : lw_tbl[765]? = some (Cond.instanceMethod yX7_fault) := by decide +kernel
theorem tw_766 : lw_tbl[766]? = some (Cond.selects "ShiftedShapesModel" yX7_fault yX7_fault) := by decide +kernel
theorem tw_790 : lw_tbl[790]? = some (Cond.code yX7_lay cX7_lay 1 (some .int)) := by decide +kernel
theorem tw_788 : lw_tbl[788]? = some (Cond.instanceMethod yX7_lay) := by decide +kernel
theorem tw_789 : lw_tbl[789]? = some (Cond.selects "ShiftedShapesModel" yX7_lay yX7_lay) := by decide +kernel
theorem tw_798 : lw_tbl[798]? = some (Cond.code yX7_isNote cX7_isNote 2 (some .boolean)) := by decide +kernel
theorem tw_797 : lw_tbl[797]? = some (Cond.instanceMethod yX7_isNote) := by decide +kernel
theorem tw_54 : lw_tbl[54]? = some (Cond.selects "ShiftedShapesModel" yX7_isNote yX7_isNote) := by decide +kernel
theorem tw_794 : lw_tbl[794]? = some (Cond.code yX7_note cX7_note 3 (some .int)) := by decide +kernel
theorem tw_792 : lw_tbl[792]? = some (Cond.instanceMethod yX7_note) := by decide +kernel
theorem tw_793 : lw_tbl[793]? = some (Cond.selects "ShiftedShapesModel" yX7_note yX7_note) := by decide +kernel
theorem tw_809 : lw_tbl[809]? = some (Cond.code yX7_notes cX7_notes 2 none) := by decide +kernel
theorem tw_808 : lw_tbl[808]? = some (Cond.instanceMethod yX7_notes) := by decide +kernel
theorem tw_55 : lw_tbl[55]? = some (Cond.selects "ShiftedShapesModel" yX7_notes yX7_notes) := by decide +kernel
theorem tw_805 : lw_tbl[805]? = some (Cond.code yX7_isThere cX7_isThere 2 (some .boolean)) := by decide +kernel
theorem tw_804 : lw_tbl[804]? = some (Cond.static yX7_isThere) := by decide +kernel
theorem tw_802 : lw_tbl[802]? = some (Cond.code yX7_put cX7_put 3 (some .int)) := by decide +kernel
theorem tw_800 : lw_tbl[800]? = some (Cond.instanceMethod yX7_put) := by decide +kernel
theorem tw_801 : lw_tbl[801]? = some (Cond.selects "ShiftedShapesModel" yX7_put yX7_put) := by decide +kernel
theorem tw_813 : lw_tbl[813]? = some (Cond.code yX7_take cX7_take 2 (some .int)) := by decide +kernel
theorem tw_811 : lw_tbl[811]? = some (Cond.instanceMethod yX7_take) := by decide +kernel
theorem tw_812 : lw_tbl[812]? = some (Cond.selects "ShiftedShapesModel" yX7_take yX7_take) := by decide +kernel
theorem tw_824 : lw_tbl[824]? = some (Cond.code yX7_isShift cX7_isShift 3 (some .boolean)) := by decide +kernel
theorem tw_823 : lw_tbl[823]? = some (Cond.instanceMethod yX7_isShift) := by decide +kernel
theorem tw_56 : lw_tbl[56]? = some (Cond.selects "ShiftedShapesModel" yX7_isShift yX7_isShift) := by decide +kernel
theorem tw_820 : lw_tbl[820]? = some (Cond.code yX7_shift cX7_shift 6 (some .int)) := by decide +kernel
theorem tw_818 : lw_tbl[818]? = some (Cond.instanceMethod yX7_shift) := by decide +kernel
theorem tw_819 : lw_tbl[819]? = some (Cond.selects "ShiftedShapesModel" yX7_shift yX7_shift) := by decide +kernel
theorem tw_828 : lw_tbl[828]? = some (Cond.code yX7_shiftAll cX7_shiftAll 4 (some .int)) := by decide +kernel
theorem tw_826 : lw_tbl[826]? = some (Cond.instanceMethod yX7_shiftAll) := by decide +kernel
theorem tw_827 : lw_tbl[827]? = some (Cond.selects "ShiftedShapesModel" yX7_shiftAll yX7_shiftAll) := by decide +kernel
theorem tw_832 : lw_tbl[832]? = some (Cond.code yX7_mode cX7_mode 3 (some .int)) := by decide +kernel
theorem tw_830 : lw_tbl[830]? = some (Cond.instanceMethod yX7_mode) := by decide +kernel
theorem tw_831 : lw_tbl[831]? = some (Cond.selects "ShiftedShapesModel" yX7_mode yX7_mode) := by decide +kernel
theorem tw_836 : lw_tbl[836]? = some (Cond.code yX7_undo cX7_undo 1 (some .int)) := by decide +kernel
theorem tw_834 : lw_tbl[834]? = some (Cond.instanceMethod yX7_undo) := by decide +kernel
theorem tw_835 : lw_tbl[835]? = some (Cond.selects "ShiftedShapesModel" yX7_undo yX7_undo) := by decide +kernel
theorem tw_862 : lw_tbl[862]? = some (Cond.code yX7_standsAt cX7_standsAt 3 (some .int)) := by decide +kernel
theorem tw_861 : lw_tbl[861]? = some (Cond.instanceMethod yX7_standsAt) := by decide +kernel
theorem tw_60 : lw_tbl[60]? = some (Cond.selects "ShiftedShapesModel" yX7_standsAt yX7_standsAt) := by decide +kernel
theorem tw_858 : lw_tbl[858]? = some (Cond.code yX7_metBy cX7_metBy 8 (some .int)) := by decide +kernel
theorem tw_857 : lw_tbl[857]? = some (Cond.instanceMethod yX7_metBy) := by decide +kernel
theorem tw_59 : lw_tbl[59]? = some (Cond.selects "ShiftedShapesModel" yX7_metBy yX7_metBy) := by decide +kernel
theorem tw_854 : lw_tbl[854]? = some (Cond.code yX7_firstPitch cX7_firstPitch 1 (some .int)) := by decide +kernel
theorem tw_853 : lw_tbl[853]? = some (Cond.instanceMethod yX7_firstPitch) := by decide +kernel
theorem tw_58 : lw_tbl[58]? = some (Cond.selects "ShiftedShapesModel" yX7_firstPitch yX7_firstPitch) := by decide +kernel
theorem tw_847 : lw_tbl[847]? = some (Cond.code yX7_lays cX7_lays 7 none) := by decide +kernel
theorem tw_846 : lw_tbl[846]? = some (Cond.instanceMethod yX7_lays) := by decide +kernel
theorem tw_57 : lw_tbl[57]? = some (Cond.selects "ShiftedShapesModel" yX7_lays yX7_lays) := by decide +kernel
theorem tw_885 : lw_tbl[885]? = some (Cond.code yX7_looksAt cX7_looksAt 5 none) := by decide +kernel
theorem tw_884 : lw_tbl[884]? = some (Cond.instanceMethod yX7_looksAt) := by decide +kernel
theorem tw_63 : lw_tbl[63]? = some (Cond.selects "ShiftedShapesModel" yX7_looksAt yX7_looksAt) := by decide +kernel
theorem tw_889 : lw_tbl[889]? = some (Cond.code yX7_gainOf cX7_gainOf 2 (some .int)) := by decide +kernel
theorem tw_888 : lw_tbl[888]? = some (Cond.instanceMethod yX7_gainOf) := by decide +kernel
theorem tw_64 : lw_tbl[64]? = some (Cond.selects "ShiftedShapesModel" yX7_gainOf yX7_gainOf) := by decide +kernel
theorem tw_881 : lw_tbl[881]? = some (Cond.code yX7_isNew cX7_isNew 3 (some .boolean)) := by decide +kernel
theorem tw_880 : lw_tbl[880]? = some (Cond.instanceMethod yX7_isNew) := by decide +kernel
theorem tw_62 : lw_tbl[62]? = some (Cond.selects "ShiftedShapesModel" yX7_isNew yX7_isNew) := by decide +kernel
theorem tw_874 : lw_tbl[874]? = some (Cond.code yX7_findsShapes cX7_findsShapes 4 none) := by decide +kernel
theorem tw_873 : lw_tbl[873]? = some (Cond.instanceMethod yX7_findsShapes) := by decide +kernel
theorem tw_61 : lw_tbl[61]? = some (Cond.selects "ShiftedShapesModel" yX7_findsShapes yX7_findsShapes) := by decide +kernel
theorem tw_901 : lw_tbl[901]? = some (Cond.code yX7_findsBest cX7_findsBest 5 none) := by decide +kernel
theorem tw_900 : lw_tbl[900]? = some (Cond.instanceMethod yX7_findsBest) := by decide +kernel
theorem tw_65 : lw_tbl[65]? = some (Cond.selects "ShiftedShapesModel" yX7_findsBest yX7_findsBest) := by decide +kernel
theorem tw_843 : lw_tbl[843]? = some (Cond.code yX7_allOf cX7_allOf 1 (some .int)) := by decide +kernel
theorem tw_842 : lw_tbl[842]? = some (Cond.static yX7_allOf) := by decide +kernel
theorem tw_840 : lw_tbl[840]? = some (Cond.code yX7_largest cX7_largest 3 (some .int)) := by decide +kernel
theorem tw_838 : lw_tbl[838]? = some (Cond.instanceMethod yX7_largest) := by decide +kernel
theorem tw_839 : lw_tbl[839]? = some (Cond.selects "ShiftedShapesModel" yX7_largest yX7_largest) := by decide +kernel
theorem tw_866 : lw_tbl[866]? = some (Cond.code yX7_meets cX7_meets 4 (some .int)) := by decide +kernel
theorem tw_864 : lw_tbl[864]? = some (Cond.instanceMethod yX7_meets) := by decide +kernel
theorem tw_865 : lw_tbl[865]? = some (Cond.selects "ShiftedShapesModel" yX7_meets yX7_meets) := by decide +kernel
theorem tw_870 : lw_tbl[870]? = some (Cond.code yX7_shape cX7_shape 4 (some .int)) := by decide +kernel
theorem tw_868 : lw_tbl[868]? = some (Cond.instanceMethod yX7_shape) := by decide +kernel
theorem tw_869 : lw_tbl[869]? = some (Cond.selects "ShiftedShapesModel" yX7_shape yX7_shape) := by decide +kernel
theorem tw_893 : lw_tbl[893]? = some (Cond.code yX7_place cX7_place 5 (some .int)) := by decide +kernel
theorem tw_891 : lw_tbl[891]? = some (Cond.instanceMethod yX7_place) := by decide +kernel
theorem tw_892 : lw_tbl[892]? = some (Cond.selects "ShiftedShapesModel" yX7_place yX7_place) := by decide +kernel
theorem tw_897 : lw_tbl[897]? = some (Cond.code yX7_best cX7_best 2 (some .int)) := by decide +kernel
theorem tw_895 : lw_tbl[895]? = some (Cond.instanceMethod yX7_best) := by decide +kernel
theorem tw_896 : lw_tbl[896]? = some (Cond.selects "ShiftedShapesModel" yX7_best yX7_best) := by decide +kernel
theorem tw_909 : lw_tbl[909]? = some (Cond.code yX7_isParted cX7_isParted 2 none) := by decide +kernel
theorem tw_908 : lw_tbl[908]? = some (Cond.instanceMethod yX7_isParted) := by decide +kernel
theorem tw_66 : lw_tbl[66]? = some (Cond.selects "ShiftedShapesModel" yX7_isParted yX7_isParted) := by decide +kernel
theorem tw_905 : lw_tbl[905]? = some (Cond.code yX7_parted cX7_parted 3 (some .int)) := by decide +kernel
theorem tw_903 : lw_tbl[903]? = some (Cond.instanceMethod yX7_parted) := by decide +kernel
theorem tw_904 : lw_tbl[904]? = some (Cond.selects "ShiftedShapesModel" yX7_parted yX7_parted) := by decide +kernel
theorem tw_913 : lw_tbl[913]? = some (Cond.code yX7_parting cX7_parting 2 (some .int)) := by decide +kernel
theorem tw_911 : lw_tbl[911]? = some (Cond.instanceMethod yX7_parting) := by decide +kernel
theorem tw_912 : lw_tbl[912]? = some (Cond.selects "ShiftedShapesModel" yX7_parting yX7_parting) := by decide +kernel
theorem tw_921 : lw_tbl[921]? = some (Cond.code yX7_fewest cX7_fewest 6 (some .int)) := by decide +kernel
theorem tw_920 : lw_tbl[920]? = some (Cond.instanceMethod yX7_fewest) := by decide +kernel
theorem tw_67 : lw_tbl[67]? = some (Cond.selects "ShiftedShapesModel" yX7_fewest yX7_fewest) := by decide +kernel
theorem tw_917 : lw_tbl[917]? = some (Cond.code yX7_shapes cX7_shapes 4 (some .int)) := by decide +kernel
theorem tw_915 : lw_tbl[915]? = some (Cond.instanceMethod yX7_shapes) := by decide +kernel
theorem tw_916 : lw_tbl[916]? = some (Cond.selects "ShiftedShapesModel" yX7_shapes yX7_shapes) := by decide +kernel
theorem tw_925 : lw_tbl[925]? = some (Cond.code yX7_link cX7_link 6 (some .int)) := by decide +kernel
theorem tw_923 : lw_tbl[923]? = some (Cond.instanceMethod yX7_link) := by decide +kernel
theorem tw_924 : lw_tbl[924]? = some (Cond.selects "ShiftedShapesModel" yX7_link yX7_link) := by decide +kernel
theorem tw_929 : lw_tbl[929]? = some (Cond.code yX7_better cX7_better 8 (some .int)) := by decide +kernel
theorem tw_927 : lw_tbl[927]? = some (Cond.instanceMethod yX7_better) := by decide +kernel
theorem tw_928 : lw_tbl[928]? = some (Cond.selects "ShiftedShapesModel" yX7_better yX7_better) := by decide +kernel
theorem tw_940 : lw_tbl[940]? = some (Cond.code yX7_happens cX7_happens 5 none) := by decide +kernel
theorem tw_939 : lw_tbl[939]? = some (Cond.instanceMethod yX7_happens) := by decide +kernel
theorem tw_68 : lw_tbl[68]? = some (Cond.selects "ShiftedShapesModel" yX7_happens yX7_happens) := by decide +kernel
theorem tw_933 : lw_tbl[933]? = some (Cond.code yX7_day cX7_day 7 (some .int)) := by decide +kernel
theorem tw_931 : lw_tbl[931]? = some (Cond.instanceMethod yX7_day) := by decide +kernel
theorem tw_932 : lw_tbl[932]? = some (Cond.selects "ShiftedShapesModel" yX7_day yX7_day) := by decide +kernel
theorem tw_944 : lw_tbl[944]? = some (Cond.code yX7_keep cX7_keep 1 (some .int)) := by decide +kernel
theorem tw_942 : lw_tbl[942]? = some (Cond.instanceMethod yX7_keep) := by decide +kernel
theorem tw_943 : lw_tbl[943]? = some (Cond.selects "ShiftedShapesModel" yX7_keep yX7_keep) := by decide +kernel
theorem tw_948 : lw_tbl[948]? = some (Cond.code yX7_back cX7_back 1 (some .int)) := by decide +kernel
theorem tw_946 : lw_tbl[946]? = some (Cond.instanceMethod yX7_back) := by decide +kernel
theorem tw_947 : lw_tbl[947]? = some (Cond.selects "ShiftedShapesModel" yX7_back yX7_back) := by decide +kernel
theorem tw_952 : lw_tbl[952]? = some (Cond.code yX7_count cX7_count 2 (some .int)) := by decide +kernel
theorem tw_950 : lw_tbl[950]? = some (Cond.instanceMethod yX7_count) := by decide +kernel
theorem tw_951 : lw_tbl[951]? = some (Cond.selects "ShiftedShapesModel" yX7_count yX7_count) := by decide +kernel
theorem tw_545 : lw_tbl[545]? = some (Cond.code yJ6_bitCount_0f7a4 cJ6_bitCount_0f7a4 1 (some .int)) := by decide +kernel
theorem tw_81 : lw_tbl[81]? = some (Cond.initialized "java/lang/Integer") := by decide +kernel
theorem tw_544 : lw_tbl[544]? = some (Cond.static yJ6_bitCount_0f7a4) := by decide +kernel
theorem tw_482 : lw_tbl[482]? = some (Cond.code yJ9_floorMod_7cf53 cJ9_floorMod_7cf53 3 (some .int)) := by decide +kernel
theorem tw_74 : lw_tbl[74]? = some (Cond.initialized "java/lang/Math") := by decide +kernel
theorem tw_481 : lw_tbl[481]? = some (Cond.static yJ9_floorMod_7cf53) := by decide +kernel
theorem tw_138 : lw_tbl[138]? = some (Cond.code Lib.Math.max.name Lib.Math.max.code 2 (some .int)) := by decide +kernel
theorem tw_137 : lw_tbl[137]? = some (Cond.static Lib.Math.max.name) := by decide +kernel
theorem tw_465 : lw_tbl[465]? = some (Cond.code yJ7_fill_53178 cJ7_fill_53178 4 none) := by decide +kernel
theorem tw_80 : lw_tbl[80]? = some (Cond.initialized "java/util/Arrays") := by decide +kernel
theorem tw_464 : lw_tbl[464]? = some (Cond.static yJ7_fill_53178) := by decide +kernel
theorem tw_84 : lw_tbl[84]? = some (Cond.methodLink "ShiftedShapesLaw" 9 yX6_init) := by decide +kernel
theorem tw_87 : lw_tbl[87]? = some (Cond.methodLink "ShiftedShapes" 3 objectInit) := by decide +kernel
theorem tw_92 : lw_tbl[92]? = some (Cond.methodLinkNest "ShiftedShapes" 11 yX4_init "ShiftedShapes") := by decide +kernel
theorem tw_95 : lw_tbl[95]? = some (Cond.methodLink "ShiftedShapes$Script" 3 objectInit) := by decide +kernel
theorem tw_110 : lw_tbl[110]? = some (Cond.methodLinkNest "ShiftedShapes" 18 yX2_init "ShiftedShapes") := by decide +kernel
theorem tw_113 : lw_tbl[113]? = some (Cond.methodLink "ShiftedShapes$Piece" 3 objectInit) := by decide +kernel
theorem tw_132 : lw_tbl[132]? = some (Cond.methodLinkNest "ShiftedShapes" 28 yX3_init "ShiftedShapes") := by decide +kernel
theorem tw_135 : lw_tbl[135]? = some (Cond.methodLink "ShiftedShapes$Pile" 1 objectInit) := by decide +kernel
theorem tw_136 : lw_tbl[136]? = some (Cond.methodLink "ShiftedShapes$Pile" 7 Lib.Math.max.name) := by decide +kernel
theorem tw_141 : lw_tbl[141]? = some (Cond.methodLinkNest "ShiftedShapes$Pile" 21 yX2_init "ShiftedShapes") := by decide +kernel
theorem tw_152 : lw_tbl[152]? = some (Cond.methodLinkNest "ShiftedShapes" 40 yX5_init "ShiftedShapes") := by decide +kernel
theorem tw_155 : lw_tbl[155]? = some (Cond.methodLink "ShiftedShapes$Search" 3 objectInit) := by decide +kernel
theorem tw_205 : lw_tbl[205]? = some (Cond.methodLinkNest "ShiftedShapes" 50 yX1_init "ShiftedShapes") := by decide +kernel
theorem tw_208 : lw_tbl[208]? = some (Cond.methodLink "ShiftedShapes$Parting" 3 objectInit) := by decide +kernel
theorem tw_236 : lw_tbl[236]? = some (Cond.methodLinkNest "ShiftedShapes" 57 yX0_init "ShiftedShapes") := by decide +kernel
theorem tw_239 : lw_tbl[239]? = some (Cond.methodLink "ShiftedShapes$Covering" 3 objectInit) := by decide +kernel
theorem tw_251 : lw_tbl[251]? = some (Cond.methodLink "ShiftedShapes" 69 yX6_codeOf) := by decide +kernel
theorem tw_254 : lw_tbl[254]? = some (Cond.methodLinkNest "ShiftedShapes" 73 yX2_insert "ShiftedShapes") := by decide +kernel
theorem tw_298 : lw_tbl[298]? = some (Cond.methodLink "ShiftedShapesLaw" 13 yX6_write) := by decide +kernel
theorem tw_302 : lw_tbl[302]? = some (Cond.methodLinkNest "ShiftedShapes" 77 yX4_append "ShiftedShapes") := by decide +kernel
theorem tw_306 : lw_tbl[306]? = some (Cond.methodLink "ShiftedShapesLaw" 18 yX6_wipe) := by decide +kernel
theorem tw_310 : lw_tbl[310]? = some (Cond.methodLink "ShiftedShapesLaw" 23 yX6_fault) := by decide +kernel
theorem tw_314 : lw_tbl[314]? = some (Cond.methodLinkNest "ShiftedShapes" 85 yX4_readInto "ShiftedShapes") := by decide +kernel
theorem tw_318 : lw_tbl[318]? = some (Cond.methodLink "ShiftedShapes$Script" 30 yX4_readItem) := by decide +kernel
theorem tw_322 : lw_tbl[322]? = some (Cond.methodLink "ShiftedShapes$Script" 34 yX4_skip) := by decide +kernel
theorem tw_326 : lw_tbl[326]? = some (Cond.methodLink "ShiftedShapes$Script" 38 yX4_readNote) := by decide +kernel
theorem tw_330 : lw_tbl[330]? = some (Cond.methodLink "ShiftedShapes$Script" 44 yX4_readNumber) := by decide +kernel
theorem tw_334 : lw_tbl[334]? = some (Cond.methodLink "ShiftedShapes$Script" 63 yX4_isFigure) := by decide +kernel
theorem tw_338 : lw_tbl[338]? = some (Cond.methodLink "ShiftedShapes$Script" 67 Lib.Math.max.name) := by decide +kernel
theorem tw_339 : lw_tbl[339]? = some (Cond.methodLinkNest "ShiftedShapes$Script" 48 yX6_isWithin "ShiftedShapes") := by decide +kernel
theorem tw_342 : lw_tbl[342]? = some (Cond.methodLinkNest "ShiftedShapes$Script" 52 yX6_codeOf "ShiftedShapes") := by decide +kernel
theorem tw_343 : lw_tbl[343]? = some (Cond.methodLinkNest "ShiftedShapes$Script" 56 yX2_numberOf "ShiftedShapes") := by decide +kernel
theorem tw_347 : lw_tbl[347]? = some (Cond.methodLinkNest "ShiftedShapes$Script" 60 yX2_insert "ShiftedShapes") := by decide +kernel
theorem tw_348 : lw_tbl[348]? = some (Cond.methodLink "ShiftedShapes$Script" 41 yX4_readManner) := by decide +kernel
theorem tw_352 : lw_tbl[352]? = some (Cond.methodLink "ShiftedShapesLaw" 27 yX6_lay) := by decide +kernel
theorem tw_356 : lw_tbl[356]? = some (Cond.methodLinkNest "ShiftedShapes" 92 yX2_copyFrom "ShiftedShapes") := by decide +kernel
theorem tw_360 : lw_tbl[360]? = some (Cond.methodLink "ShiftedShapes$Piece" 19 arraycopyName) := by decide +kernel
theorem tw_363 : lw_tbl[363]? = some (Cond.methodLink "ShiftedShapes" 97 yX6_forgetFindings) := by decide +kernel
theorem tw_367 : lw_tbl[367]? = some (Cond.methodLink "ShiftedShapesLaw" 31 yX6_note) := by decide +kernel
theorem tw_371 : lw_tbl[371]? = some (Cond.methodLink "ShiftedShapes" 100 yX6_isNote) := by decide +kernel
theorem tw_375 : lw_tbl[375]? = some (Cond.methodLinkNest "ShiftedShapes" 103 yX2_timeOf "ShiftedShapes") := by decide +kernel
theorem tw_379 : lw_tbl[379]? = some (Cond.methodLinkNest "ShiftedShapes" 106 yX2_pitchOf "ShiftedShapes") := by decide +kernel
theorem tw_383 : lw_tbl[383]? = some (Cond.methodLink "ShiftedShapesLaw" 36 yX6_put) := by decide +kernel
theorem tw_387 : lw_tbl[387]? = some (Cond.methodLink "ShiftedShapes" 109 yX6_isWithin) := by decide +kernel
theorem tw_388 : lw_tbl[388]? = some (Cond.methodLinkNest "ShiftedShapes" 113 yX2_numberOf "ShiftedShapes") := by decide +kernel
theorem tw_389 : lw_tbl[389]? = some (Cond.methodLink "ShiftedShapes" 116 yX6_beginAct) := by decide +kernel
theorem tw_393 : lw_tbl[393]? = some (Cond.methodLinkNest "ShiftedShapes" 238 yX3_push "ShiftedShapes") := by decide +kernel
theorem tw_397 : lw_tbl[397]? = some (Cond.methodLink "ShiftedShapes$Pile" 26 yX3_dropOldest) := by decide +kernel
theorem tw_401 : lw_tbl[401]? = some (Cond.methodLinkNest "ShiftedShapes$Pile" 29 yX2_copyFrom "ShiftedShapes") := by decide +kernel
theorem tw_402 : lw_tbl[402]? = some (Cond.methodLink "ShiftedShapesLaw" 40 yX6_take) := by decide +kernel
theorem tw_406 : lw_tbl[406]? = some (Cond.methodLinkNest "ShiftedShapes" 119 yX2_remove "ShiftedShapes") := by decide +kernel
theorem tw_410 : lw_tbl[410]? = some (Cond.methodLink "ShiftedShapesLaw" 44 yX6_shift) := by decide +kernel
theorem tw_414 : lw_tbl[414]? = some (Cond.methodLink "ShiftedShapes" 122 yX6_isMove) := by decide +kernel
theorem tw_418 : lw_tbl[418]? = some (Cond.methodLink "ShiftedShapes" 138 yX6_isShift) := by decide +kernel
theorem tw_422 : lw_tbl[422]? = some (Cond.methodLink "ShiftedShapes" 125 yX6_staysWithin) := by decide +kernel
theorem tw_426 : lw_tbl[426]? = some (Cond.methodLink "ShiftedShapesLaw" 49 yX6_shiftAll) := by decide +kernel
theorem tw_430 : lw_tbl[430]? = some (Cond.methodLinkNest "ShiftedShapes" 129 yX2_moveAll "ShiftedShapes") := by decide +kernel
theorem tw_434 : lw_tbl[434]? = some (Cond.methodLink "ShiftedShapesLaw" 53 yX6_mode) := by decide +kernel
theorem tw_438 : lw_tbl[438]? = some (Cond.methodLink "ShiftedShapesLaw" 57 yX6_undo) := by decide +kernel
theorem tw_442 : lw_tbl[442]? = some (Cond.methodLinkNest "ShiftedShapes" 135 yX3_popInto "ShiftedShapes") := by decide +kernel
theorem tw_446 : lw_tbl[446]? = some (Cond.methodLink "ShiftedShapesLaw" 61 yX6_largest) := by decide +kernel
theorem tw_450 : lw_tbl[450]? = some (Cond.methodLink "ShiftedShapes" 141 yX6_wholeSearch) := by decide +kernel
theorem tw_454 : lw_tbl[454]? = some (Cond.methodLinkNest "ShiftedShapes" 167 yX2_allNotes "ShiftedShapes") := by decide +kernel
theorem tw_458 : lw_tbl[458]? = some (Cond.methodLinkNest "ShiftedShapes" 234 yX5_lookOver "ShiftedShapes") := by decide +kernel
theorem tw_462 : lw_tbl[462]? = some (Cond.methodLinkNest "ShiftedShapes$Search" 43 yX2_allNotes "ShiftedShapes") := by decide +kernel
theorem tw_463 : lw_tbl[463]? = some (Cond.methodLink "ShiftedShapes$Search" 50 yJ7_fill_53178) := by decide +kernel
theorem tw_466 : lw_tbl[466]? = some (Cond.methodLinkNest "ShiftedShapes$Search" 59 yX2_timeOf "ShiftedShapes") := by decide +kernel
theorem tw_467 : lw_tbl[467]? = some (Cond.methodLinkNest "ShiftedShapes$Search" 63 yX2_pitchOf "ShiftedShapes") := by decide +kernel
theorem tw_468 : lw_tbl[468]? = some (Cond.methodLink "ShiftedShapes$Search" 66 yX5_has) := by decide +kernel
theorem tw_471 : lw_tbl[471]? = some (Cond.methodLinkNest "ShiftedShapes$Search" 70 yX6_codeOf "ShiftedShapes") := by decide +kernel
theorem tw_472 : lw_tbl[472]? = some (Cond.methodLink "ShiftedShapes$Search" 74 yX5_findLargests) := by decide +kernel
theorem tw_476 : lw_tbl[476]? = some (Cond.methodLink "ShiftedShapes$Search" 83 yX5_enterPair) := by decide +kernel
theorem tw_480 : lw_tbl[480]? = some (Cond.methodLink "ShiftedShapes$Search" 87 yJ9_floorMod_7cf53) := by decide +kernel
theorem tw_483 : lw_tbl[483]? = some (Cond.methodLink "ShiftedShapes$Search" 92 yX5_enter) := by decide +kernel
theorem tw_487 : lw_tbl[487]? = some (Cond.methodLink "ShiftedShapes$Search" 96 yX5_isHeld) := by decide +kernel
theorem tw_490 : lw_tbl[490]? = some (Cond.methodLink "ShiftedShapes$Search" 99 yX5_shiftOf) := by decide +kernel
theorem tw_493 : lw_tbl[493]? = some (Cond.methodLink "ShiftedShapes$Search" 77 yX5_findWideShifts) := by decide +kernel
theorem tw_497 : lw_tbl[497]? = some (Cond.methodLink "ShiftedShapes$Search" 105 yX5_hasTwo) := by decide +kernel
theorem tw_500 : lw_tbl[500]? = some (Cond.methodLink "ShiftedShapes$Search" 80 yX5_findShapes) := by decide +kernel
theorem tw_504 : lw_tbl[504]? = some (Cond.methodLink "ShiftedShapes$Search" 112 yX5_isShape) := by decide +kernel
theorem tw_508 : lw_tbl[508]? = some (Cond.methodLink "ShiftedShapes$Search" 115 yX5_measureShape) := by decide +kernel
theorem tw_512 : lw_tbl[512]? = some (Cond.methodLink "ShiftedShapes$Search" 119 yX5_timePart) := by decide +kernel
theorem tw_515 : lw_tbl[515]? = some (Cond.methodLink "ShiftedShapes$Search" 122 yX5_pitchPart) := by decide +kernel
theorem tw_518 : lw_tbl[518]? = some (Cond.methodLink "ShiftedShapes$Search" 125 yX5_met) := by decide +kernel
theorem tw_522 : lw_tbl[522]? = some (Cond.methodLink "ShiftedShapes$Search" 129 yX5_numberAt) := by decide +kernel
theorem tw_526 : lw_tbl[526]? = some (Cond.methodLinkNest "ShiftedShapes" 145 yX5_largestOf "ShiftedShapes") := by decide +kernel
theorem tw_530 : lw_tbl[530]? = some (Cond.methodLink "ShiftedShapesLaw" 65 yX6_meets) := by decide +kernel
theorem tw_534 : lw_tbl[534]? = some (Cond.methodLinkNest "ShiftedShapes" 148 yX5_met "ShiftedShapes") := by decide +kernel
theorem tw_535 : lw_tbl[535]? = some (Cond.methodLink "ShiftedShapesLaw" 69 yX6_shape) := by decide +kernel
theorem tw_539 : lw_tbl[539]? = some (Cond.methodLinkNest "ShiftedShapes" 164 yX5_gainOf "ShiftedShapes") := by decide +kernel
theorem tw_543 : lw_tbl[543]? = some (Cond.methodLink "ShiftedShapes$Search" 132 yJ6_bitCount_0f7a4) := by decide +kernel
theorem tw_549 : lw_tbl[549]? = some (Cond.methodLink "ShiftedShapesLaw" 73 yX6_place) := by decide +kernel
theorem tw_553 : lw_tbl[553]? = some (Cond.methodLinkNest "ShiftedShapes" 171 yX5_placesOf "ShiftedShapes") := by decide +kernel
theorem tw_557 : lw_tbl[557]? = some (Cond.methodLinkNest "ShiftedShapes" 174 yX5_placeOf "ShiftedShapes") := by decide +kernel
theorem tw_561 : lw_tbl[561]? = some (Cond.methodLink "ShiftedShapesLaw" 77 yX6_best) := by decide +kernel
theorem tw_565 : lw_tbl[565]? = some (Cond.methodLinkNest "ShiftedShapes" 177 yX5_bestShape "ShiftedShapes") := by decide +kernel
theorem tw_569 : lw_tbl[569]? = some (Cond.methodLink "ShiftedShapes$Search" 137 yX5_isBetter) := by decide +kernel
theorem tw_573 : lw_tbl[573]? = some (Cond.methodLink "ShiftedShapes$Search" 140 yX5_gainOf) := by decide +kernel
theorem tw_574 : lw_tbl[574]? = some (Cond.methodLink "ShiftedShapesLaw" 81 yX6_parted) := by decide +kernel
theorem tw_578 : lw_tbl[578]? = some (Cond.methodLinkNest "ShiftedShapes" 180 yX1_takeApart "ShiftedShapes") := by decide +kernel
theorem tw_582 : lw_tbl[582]? = some (Cond.methodLinkNest "ShiftedShapes$Parting" 28 yX2_allNotes "ShiftedShapes") := by decide +kernel
theorem tw_583 : lw_tbl[583]? = some (Cond.methodLinkNest "ShiftedShapes$Parting" 37 yX5_lookOver "ShiftedShapes") := by decide +kernel
theorem tw_584 : lw_tbl[584]? = some (Cond.methodLinkNest "ShiftedShapes$Parting" 43 yX5_bestShape "ShiftedShapes") := by decide +kernel
theorem tw_585 : lw_tbl[585]? = some (Cond.methodLinkNest "ShiftedShapes$Parting" 46 yX5_gainOf "ShiftedShapes") := by decide +kernel
theorem tw_586 : lw_tbl[586]? = some (Cond.methodLink "ShiftedShapes$Parting" 50 yX1_setAside) := by decide +kernel
theorem tw_590 : lw_tbl[590]? = some (Cond.methodLink "ShiftedShapes$Parting" 54 yJ6_bitCount_0f7a4) := by decide +kernel
theorem tw_591 : lw_tbl[591]? = some (Cond.methodLink "ShiftedShapesLaw" 85 yX6_parting) := by decide +kernel
theorem tw_595 : lw_tbl[595]? = some (Cond.methodLink "ShiftedShapesLaw" 89 yX6_shapes) := by decide +kernel
theorem tw_599 : lw_tbl[599]? = some (Cond.methodLinkNest "ShiftedShapes" 200 yX0_fewestOf "ShiftedShapes") := by decide +kernel
theorem tw_603 : lw_tbl[603]? = some (Cond.methodLink "ShiftedShapes$Covering" 15 yX0_gather) := by decide +kernel
theorem tw_607 : lw_tbl[607]? = some (Cond.methodLink "ShiftedShapes$Covering" 36 yX0_isWithinAnother) := by decide +kernel
theorem tw_610 : lw_tbl[610]? = some (Cond.methodLinkNest "ShiftedShapes$Covering" 19 yX5_covered "ShiftedShapes") := by decide +kernel
theorem tw_614 : lw_tbl[614]? = some (Cond.methodLink "ShiftedShapes$Covering" 29 yX0_isReached) := by decide +kernel
theorem tw_617 : lw_tbl[617]? = some (Cond.methodLinkNest "ShiftedShapes" 204 yX5_covered "ShiftedShapes") := by decide +kernel
theorem tw_618 : lw_tbl[618]? = some (Cond.methodLink "ShiftedShapesLaw" 93 yX6_link) := by decide +kernel
theorem tw_622 : lw_tbl[622]? = some (Cond.methodLink "ShiftedShapes" 207 yJ9_floorMod_7cf53) := by decide +kernel
theorem tw_623 : lw_tbl[623]? = some (Cond.methodLink "ShiftedShapes" 212 yJ6_bitCount_0f7a4) := by decide +kernel
theorem tw_624 : lw_tbl[624]? = some (Cond.methodLink "ShiftedShapesLaw" 97 yX6_better) := by decide +kernel
theorem tw_628 : lw_tbl[628]? = some (Cond.methodLink "ShiftedShapes" 221 yX6_findBetter) := by decide +kernel
theorem tw_632 : lw_tbl[632]? = some (Cond.methodLink "ShiftedShapesLaw" 101 yX6_day) := by decide +kernel
theorem tw_636 : lw_tbl[636]? = some (Cond.methodLink "ShiftedShapes" 230 yX6_drawOnce) := by decide +kernel
theorem tw_643 : lw_tbl[643]? = some (Cond.methodLink "ShiftedShapesLaw" 105 yX6_keep) := by decide +kernel
theorem tw_647 : lw_tbl[647]? = some (Cond.methodLink "ShiftedShapesLaw" 109 yX6_back) := by decide +kernel
theorem tw_651 : lw_tbl[651]? = some (Cond.methodLink "ShiftedShapesLaw" 113 yX6_count) := by decide +kernel
theorem tw_657 : lw_tbl[657]? = some (Cond.methodLink "ShiftedShapesLaw" 12 yX7_init) := by decide +kernel
theorem tw_660 : lw_tbl[660]? = some (Cond.methodLink "ShiftedShapesModel" 1 objectInit) := by decide +kernel
theorem tw_661 : lw_tbl[661]? = some (Cond.methodLink "ShiftedShapesModel" 46 yX7_begins) := by decide +kernel
theorem tw_665 : lw_tbl[665]? = some (Cond.methodLink "ShiftedShapesModel" 53 yX7_puts) := by decide +kernel
theorem tw_668 : lw_tbl[668]? = some (Cond.methodLink "ShiftedShapesModel" 49 yX7_copies) := by decide +kernel
theorem tw_753 : lw_tbl[753]? = some (Cond.methodLink "ShiftedShapesLaw" 17 yX7_write) := by decide +kernel
theorem tw_757 : lw_tbl[757]? = some (Cond.methodLink "ShiftedShapesModel" 68 yX7_in) := by decide +kernel
theorem tw_760 : lw_tbl[760]? = some (Cond.methodLink "ShiftedShapesLaw" 22 yX7_wipe) := by decide +kernel
theorem tw_764 : lw_tbl[764]? = some (Cond.methodLink "ShiftedShapesLaw" 26 yX7_fault) := by decide +kernel
theorem tw_768 : lw_tbl[768]? = some (Cond.methodLink "ShiftedShapesModel" 83 yX7_reading) := by decide +kernel
theorem tw_772 : lw_tbl[772]? = some (Cond.methodLink "ShiftedShapesModel" 79 yX7_readsItem) := by decide +kernel
theorem tw_776 : lw_tbl[776]? = some (Cond.methodLink "ShiftedShapesModel" 64 yX7_here) := by decide +kernel
theorem tw_780 : lw_tbl[780]? = some (Cond.methodLink "ShiftedShapesModel" 72 yX7_number) := by decide +kernel
theorem tw_784 : lw_tbl[784]? = some (Cond.methodLink "ShiftedShapesModel" 76 yX7_numberOf) := by decide +kernel
theorem tw_787 : lw_tbl[787]? = some (Cond.methodLink "ShiftedShapesLaw" 30 yX7_lay) := by decide +kernel
theorem tw_791 : lw_tbl[791]? = some (Cond.methodLink "ShiftedShapesLaw" 35 yX7_note) := by decide +kernel
theorem tw_795 : lw_tbl[795]? = some (Cond.methodLink "ShiftedShapesModel" 92 yX7_isNote) := by decide +kernel
theorem tw_799 : lw_tbl[799]? = some (Cond.methodLink "ShiftedShapesLaw" 39 yX7_put) := by decide +kernel
theorem tw_803 : lw_tbl[803]? = some (Cond.methodLink "ShiftedShapesModel" 96 yX7_isThere) := by decide +kernel
theorem tw_806 : lw_tbl[806]? = some (Cond.methodLink "ShiftedShapesModel" 100 yX7_notes) := by decide +kernel
theorem tw_810 : lw_tbl[810]? = some (Cond.methodLink "ShiftedShapesLaw" 43 yX7_take) := by decide +kernel
theorem tw_814 : lw_tbl[814]? = some (Cond.methodLink "ShiftedShapesModel" 103 yX7_leaves) := by decide +kernel
theorem tw_817 : lw_tbl[817]? = some (Cond.methodLink "ShiftedShapesLaw" 48 yX7_shift) := by decide +kernel
theorem tw_821 : lw_tbl[821]? = some (Cond.methodLink "ShiftedShapesModel" 107 yX7_isShift) := by decide +kernel
theorem tw_825 : lw_tbl[825]? = some (Cond.methodLink "ShiftedShapesLaw" 52 yX7_shiftAll) := by decide +kernel
theorem tw_829 : lw_tbl[829]? = some (Cond.methodLink "ShiftedShapesLaw" 56 yX7_mode) := by decide +kernel
theorem tw_833 : lw_tbl[833]? = some (Cond.methodLink "ShiftedShapesLaw" 60 yX7_undo) := by decide +kernel
theorem tw_837 : lw_tbl[837]? = some (Cond.methodLink "ShiftedShapesLaw" 64 yX7_largest) := by decide +kernel
theorem tw_841 : lw_tbl[841]? = some (Cond.methodLink "ShiftedShapesModel" 166 yX7_allOf) := by decide +kernel
theorem tw_844 : lw_tbl[844]? = some (Cond.methodLink "ShiftedShapesModel" 139 yX7_lays) := by decide +kernel
theorem tw_848 : lw_tbl[848]? = some (Cond.methodLink "ShiftedShapesModel" 116 yX7_has) := by decide +kernel
theorem tw_851 : lw_tbl[851]? = some (Cond.methodLink "ShiftedShapesModel" 119 yX7_firstPitch) := by decide +kernel
theorem tw_855 : lw_tbl[855]? = some (Cond.methodLink "ShiftedShapesModel" 122 yX7_metBy) := by decide +kernel
theorem tw_859 : lw_tbl[859]? = some (Cond.methodLink "ShiftedShapesModel" 113 yX7_standsAt) := by decide +kernel
theorem tw_863 : lw_tbl[863]? = some (Cond.methodLink "ShiftedShapesLaw" 68 yX7_meets) := by decide +kernel
theorem tw_867 : lw_tbl[867]? = some (Cond.methodLink "ShiftedShapesLaw" 72 yX7_shape) := by decide +kernel
theorem tw_871 : lw_tbl[871]? = some (Cond.methodLink "ShiftedShapesModel" 145 yX7_findsShapes) := by decide +kernel
theorem tw_875 : lw_tbl[875]? = some (Cond.methodLink "ShiftedShapesModel" 132 yX7_bits) := by decide +kernel
theorem tw_878 : lw_tbl[878]? = some (Cond.methodLink "ShiftedShapesModel" 142 yX7_isNew) := by decide +kernel
theorem tw_882 : lw_tbl[882]? = some (Cond.methodLink "ShiftedShapesModel" 157 yX7_looksAt) := by decide +kernel
theorem tw_886 : lw_tbl[886]? = some (Cond.methodLink "ShiftedShapesModel" 160 yX7_gainOf) := by decide +kernel
theorem tw_890 : lw_tbl[890]? = some (Cond.methodLink "ShiftedShapesLaw" 76 yX7_place) := by decide +kernel
theorem tw_894 : lw_tbl[894]? = some (Cond.methodLink "ShiftedShapesLaw" 80 yX7_best) := by decide +kernel
theorem tw_898 : lw_tbl[898]? = some (Cond.methodLink "ShiftedShapesModel" 170 yX7_findsBest) := by decide +kernel
theorem tw_902 : lw_tbl[902]? = some (Cond.methodLink "ShiftedShapesLaw" 84 yX7_parted) := by decide +kernel
theorem tw_906 : lw_tbl[906]? = some (Cond.methodLink "ShiftedShapesModel" 182 yX7_isParted) := by decide +kernel
theorem tw_910 : lw_tbl[910]? = some (Cond.methodLink "ShiftedShapesLaw" 88 yX7_parting) := by decide +kernel
theorem tw_914 : lw_tbl[914]? = some (Cond.methodLink "ShiftedShapesLaw" 92 yX7_shapes) := by decide +kernel
theorem tw_918 : lw_tbl[918]? = some (Cond.methodLink "ShiftedShapesModel" 186 yX7_fewest) := by decide +kernel
theorem tw_922 : lw_tbl[922]? = some (Cond.methodLink "ShiftedShapesLaw" 96 yX7_link) := by decide +kernel
theorem tw_926 : lw_tbl[926]? = some (Cond.methodLink "ShiftedShapesLaw" 100 yX7_better) := by decide +kernel
theorem tw_930 : lw_tbl[930]? = some (Cond.methodLink "ShiftedShapesLaw" 104 yX7_day) := by decide +kernel
theorem tw_937 : lw_tbl[937]? = some (Cond.methodLink "ShiftedShapesModel" 195 yX7_happens) := by decide +kernel
theorem tw_941 : lw_tbl[941]? = some (Cond.methodLink "ShiftedShapesLaw" 108 yX7_keep) := by decide +kernel
theorem tw_945 : lw_tbl[945]? = some (Cond.methodLink "ShiftedShapesLaw" 112 yX7_back) := by decide +kernel
theorem tw_949 : lw_tbl[949]? = some (Cond.methodLink "ShiftedShapesLaw" 116 yX7_count) := by decide +kernel
theorem tw_69 : lw_tbl[69]? = some (Cond.initialized "ShiftedShapesLaw") := by decide +kernel
theorem tw_79 : lw_tbl[79]? = some (Cond.initialized "java/lang/System") := by decide +kernel
theorem tw_82 : lw_tbl[82]? = some (Cond.classLink "ShiftedShapesLaw" 7 "ShiftedShapes") := by decide +kernel
theorem tw_83 : lw_tbl[83]? = some (Cond.instantiable "ShiftedShapes" 13) := by decide +kernel
theorem tw_90 : lw_tbl[90]? = some (Cond.classLink "ShiftedShapes" 9 "ShiftedShapes$Script") := by decide +kernel
theorem tw_91 : lw_tbl[91]? = some (Cond.instantiable "ShiftedShapes$Script" 3) := by decide +kernel
theorem tw_108 : lw_tbl[108]? = some (Cond.classLink "ShiftedShapes" 16 "ShiftedShapes$Piece") := by decide +kernel
theorem tw_109 : lw_tbl[109]? = some (Cond.instantiable "ShiftedShapes$Piece" 3) := by decide +kernel
theorem tw_130 : lw_tbl[130]? = some (Cond.classLink "ShiftedShapes" 26 "ShiftedShapes$Pile") := by decide +kernel
theorem tw_131 : lw_tbl[131]? = some (Cond.instantiable "ShiftedShapes$Pile" 2) := by decide +kernel
theorem tw_139 : lw_tbl[139]? = some (Cond.classLink "ShiftedShapes$Pile" 13 "ShiftedShapes$Piece") := by decide +kernel
theorem tw_150 : lw_tbl[150]? = some (Cond.classLink "ShiftedShapes" 38 "ShiftedShapes$Search") := by decide +kernel
theorem tw_151 : lw_tbl[151]? = some (Cond.instantiable "ShiftedShapes$Search" 12) := by decide +kernel
theorem tw_203 : lw_tbl[203]? = some (Cond.classLink "ShiftedShapes" 48 "ShiftedShapes$Parting") := by decide +kernel
theorem tw_204 : lw_tbl[204]? = some (Cond.instantiable "ShiftedShapes$Parting" 6) := by decide +kernel
theorem tw_234 : lw_tbl[234]? = some (Cond.classLink "ShiftedShapes" 55 "ShiftedShapes$Covering") := by decide +kernel
theorem tw_235 : lw_tbl[235]? = some (Cond.instantiable "ShiftedShapes$Covering" 2) := by decide +kernel
theorem tw_546 : lw_tbl[546]? = some (Cond.constant "java/lang/Integer" 265 (1431655765)) := by decide +kernel
theorem tw_547 : lw_tbl[547]? = some (Cond.constant "java/lang/Integer" 266 (858993459)) := by decide +kernel
theorem tw_548 : lw_tbl[548]? = some (Cond.constant "java/lang/Integer" 267 (252645135)) := by decide +kernel
theorem tw_640 : lw_tbl[640]? = some (Cond.constantLong "ShiftedShapes" 244 (7919)) := by decide +kernel
theorem tw_641 : lw_tbl[641]? = some (Cond.constantLong "ShiftedShapes" 246 (6151)) := by decide +kernel
theorem tw_642 : lw_tbl[642]? = some (Cond.constantLong "ShiftedShapes" 248 (65521)) := by decide +kernel
theorem tw_655 : lw_tbl[655]? = some (Cond.classLink "ShiftedShapesLaw" 10 "ShiftedShapesModel") := by decide +kernel
theorem tw_656 : lw_tbl[656]? = some (Cond.instantiable "ShiftedShapesModel" 27) := by decide +kernel
theorem tw_934 : lw_tbl[934]? = some (Cond.constantLong "ShiftedShapesModel" 189 (7919)) := by decide +kernel
theorem tw_935 : lw_tbl[935]? = some (Cond.constantLong "ShiftedShapesModel" 191 (6151)) := by decide +kernel
theorem tw_936 : lw_tbl[936]? = some (Cond.constantLong "ShiftedShapesModel" 193 (65521)) := by decide +kernel
theorem tw_107 : lw_tbl[107]? = some (Cond.arrayClass .int) := by decide +kernel
theorem tw_88 : lw_tbl[88]? = some (Cond.instanceMethod objectInit) := by decide +kernel
theorem tw_89 : lw_tbl[89]? = some (Cond.code objectInit ⟨#[0xb1]⟩ 1 none) := by decide +kernel
theorem tw_362 : lw_tbl[362]? = some (Cond.native arraycopyName) := by decide +kernel
theorem tw_361 : lw_tbl[361]? = some (Cond.static arraycopyName) := by decide +kernel
theorem tw_140 : lw_tbl[140]? = some (Cond.arrayOver (.object "ShiftedShapes$Piece")) := by decide +kernel
theorem iwX0 : ∀ w ∈ u_ws RX0 TX0 2, w ∈ xWS := List.forall_mem_cons.mpr ⟨(xws tw_242 rfl), List.forall_mem_cons.mpr ⟨(xws tw_244 rfl), (fun _ h => absurd h List.not_mem_nil)⟩⟩
theorem iwX1 : ∀ w ∈ u_ws RX1 TX1 6, w ∈ xWS := List.forall_mem_cons.mpr ⟨(xws tw_221 rfl), List.forall_mem_cons.mpr ⟨(xws tw_223 rfl), List.forall_mem_cons.mpr ⟨(xws tw_225 rfl), List.forall_mem_cons.mpr ⟨(xws tw_227 rfl), List.forall_mem_cons.mpr ⟨(xws tw_229 rfl), List.forall_mem_cons.mpr ⟨(xws tw_231 rfl), (fun _ h => absurd h List.not_mem_nil)⟩⟩⟩⟩⟩⟩
theorem iwX2 : ∀ w ∈ u_ws RX2 TX2 3, w ∈ xWS := List.forall_mem_cons.mpr ⟨(xws tw_123 rfl), List.forall_mem_cons.mpr ⟨(xws tw_125 rfl), List.forall_mem_cons.mpr ⟨(xws tw_127 rfl), (fun _ h => absurd h List.not_mem_nil)⟩⟩⟩
theorem iwX3 : ∀ w ∈ u_ws RX3 TX3 2, w ∈ xWS := List.forall_mem_cons.mpr ⟨(xws tw_145 rfl), List.forall_mem_cons.mpr ⟨(xws tw_147 rfl), (fun _ h => absurd h List.not_mem_nil)⟩⟩
theorem iwX4 : ∀ w ∈ u_ws RX4 TX4 3, w ∈ xWS := List.forall_mem_cons.mpr ⟨(xws tw_100 rfl), List.forall_mem_cons.mpr ⟨(xws tw_102 rfl), List.forall_mem_cons.mpr ⟨(xws tw_104 rfl), (fun _ h => absurd h List.not_mem_nil)⟩⟩⟩
theorem iwX5 : ∀ w ∈ u_ws RX5 TX5 12, w ∈ xWS := List.forall_mem_cons.mpr ⟨(xws tw_178 rfl), List.forall_mem_cons.mpr ⟨(xws tw_180 rfl), List.forall_mem_cons.mpr ⟨(xws tw_182 rfl), List.forall_mem_cons.mpr ⟨(xws tw_184 rfl), List.forall_mem_cons.mpr ⟨(xws tw_186 rfl), List.forall_mem_cons.mpr ⟨(xws tw_188 rfl), List.forall_mem_cons.mpr ⟨(xws tw_190 rfl), List.forall_mem_cons.mpr ⟨(xws tw_192 rfl), List.forall_mem_cons.mpr ⟨(xws tw_194 rfl), List.forall_mem_cons.mpr ⟨(xws tw_196 rfl), List.forall_mem_cons.mpr ⟨(xws tw_198 rfl), List.forall_mem_cons.mpr ⟨(xws tw_200 rfl), (fun _ h => absurd h List.not_mem_nil)⟩⟩⟩⟩⟩⟩⟩⟩⟩⟩⟩⟩
theorem iwX6 : ∀ w ∈ u_ws RX6 TX6 13, w ∈ xWS := List.forall_mem_cons.mpr ⟨(xws tw_271 rfl), List.forall_mem_cons.mpr ⟨(xws tw_273 rfl), List.forall_mem_cons.mpr ⟨(xws tw_275 rfl), List.forall_mem_cons.mpr ⟨(xws tw_277 rfl), List.forall_mem_cons.mpr ⟨(xws tw_279 rfl), List.forall_mem_cons.mpr ⟨(xws tw_281 rfl), List.forall_mem_cons.mpr ⟨(xws tw_283 rfl), List.forall_mem_cons.mpr ⟨(xws tw_285 rfl), List.forall_mem_cons.mpr ⟨(xws tw_287 rfl), List.forall_mem_cons.mpr ⟨(xws tw_289 rfl), List.forall_mem_cons.mpr ⟨(xws tw_291 rfl), List.forall_mem_cons.mpr ⟨(xws tw_293 rfl), List.forall_mem_cons.mpr ⟨(xws tw_295 rfl), (fun _ h => absurd h List.not_mem_nil)⟩⟩⟩⟩⟩⟩⟩⟩⟩⟩⟩⟩⟩
theorem iwX7 : ∀ w ∈ u_ws RX7 TX7 27, w ∈ xWS := List.forall_mem_cons.mpr ⟨(xws tw_698 rfl), List.forall_mem_cons.mpr ⟨(xws tw_700 rfl), List.forall_mem_cons.mpr ⟨(xws tw_702 rfl), List.forall_mem_cons.mpr ⟨(xws tw_704 rfl), List.forall_mem_cons.mpr ⟨(xws tw_706 rfl), List.forall_mem_cons.mpr ⟨(xws tw_708 rfl), List.forall_mem_cons.mpr ⟨(xws tw_710 rfl), List.forall_mem_cons.mpr ⟨(xws tw_712 rfl), List.forall_mem_cons.mpr ⟨(xws tw_714 rfl), List.forall_mem_cons.mpr ⟨(xws tw_716 rfl), List.forall_mem_cons.mpr ⟨(xws tw_718 rfl), List.forall_mem_cons.mpr ⟨(xws tw_720 rfl), List.forall_mem_cons.mpr ⟨(xws tw_722 rfl), List.forall_mem_cons.mpr ⟨(xws tw_724 rfl), List.forall_mem_cons.mpr ⟨(xws tw_726 rfl), List.forall_mem_cons.mpr ⟨(xws tw_728 rfl), List.forall_mem_cons.mpr ⟨(xws tw_730 rfl), List.forall_mem_cons.mpr ⟨(xws tw_732 rfl), List.forall_mem_cons.mpr ⟨(xws tw_734 rfl), List.forall_mem_cons.mpr ⟨(xws tw_736 rfl), List.forall_mem_cons.mpr ⟨(xws tw_738 rfl), List.forall_mem_cons.mpr ⟨(xws tw_740 rfl), List.forall_mem_cons.mpr ⟨(xws tw_742 rfl), List.forall_mem_cons.mpr ⟨(xws tw_744 rfl), List.forall_mem_cons.mpr ⟨(xws tw_746 rfl), List.forall_mem_cons.mpr ⟨(xws tw_748 rfl), List.forall_mem_cons.mpr ⟨(xws tw_750 rfl), (fun _ h => absurd h List.not_mem_nil)⟩⟩⟩⟩⟩⟩⟩⟩⟩⟩⟩⟩⟩⟩⟩⟩⟩⟩⟩⟩⟩⟩⟩⟩⟩⟩⟩
theorem fk_X4_9 : fOK RX4 9 4 0 := ⟨RX4, TX4, 3, rfl, by decide, rfl, Or.inl (xws tw_96 rfl)⟩
theorem fk_X4_15 : fOK RX4 15 4 1 := ⟨RX4, TX4, 3, rfl, by decide, rfl, Or.inl (xws tw_97 rfl)⟩
theorem fk_X6_81 : fOK RX6 81 4 1 := ⟨RX4, TX4, 3, rfl, by decide, rfl, Or.inr ⟨_, List.mem_of_getElem? tw_98⟩⟩
theorem fk_X4_27 : fOK RX4 27 4 2 := ⟨RX4, TX4, 3, rfl, by decide, rfl, Or.inl (xws tw_99 rfl)⟩
theorem fk_X2_9 : fOK RX2 9 2 0 := ⟨RX2, TX2, 3, rfl, by decide, rfl, Or.inl (xws tw_114 rfl)⟩
theorem fk_X2_15 : fOK RX2 15 2 1 := ⟨RX2, TX2, 3, rfl, by decide, rfl, Or.inl (xws tw_115 rfl)⟩
theorem fk_X5_56 : fOK RX5 56 2 1 := ⟨RX2, TX2, 3, rfl, by decide, rfl, Or.inr ⟨_, List.mem_of_getElem? tw_116⟩⟩
theorem fk_X4_19 : fOK RX4 19 2 1 := ⟨RX2, TX2, 3, rfl, by decide, rfl, Or.inr ⟨_, List.mem_of_getElem? tw_117⟩⟩
theorem fk_X6_89 : fOK RX6 89 2 1 := ⟨RX2, TX2, 3, rfl, by decide, rfl, Or.inr ⟨_, List.mem_of_getElem? tw_118⟩⟩
theorem fk_X5_36 : fOK RX5 36 2 2 := ⟨RX2, TX2, 3, rfl, by decide, rfl, Or.inr ⟨_, List.mem_of_getElem? tw_119⟩⟩
theorem fk_X4_24 : fOK RX4 24 2 2 := ⟨RX2, TX2, 3, rfl, by decide, rfl, Or.inr ⟨_, List.mem_of_getElem? tw_120⟩⟩
theorem fk_X2_25 : fOK RX2 25 2 2 := ⟨RX2, TX2, 3, rfl, by decide, rfl, Or.inl (xws tw_121 rfl)⟩
theorem fk_X6_132 : fOK RX6 132 2 2 := ⟨RX2, TX2, 3, rfl, by decide, rfl, Or.inr ⟨_, List.mem_of_getElem? tw_122⟩⟩
theorem fk_X3_15 : fOK RX3 15 3 0 := ⟨RX3, TX3, 2, rfl, by decide, rfl, Or.inl (xws tw_142 rfl)⟩
theorem fk_X3_22 : fOK RX3 22 3 1 := ⟨RX3, TX3, 2, rfl, by decide, rfl, Or.inl (xws tw_143 rfl)⟩
theorem fk_X6_96 : fOK RX6 96 3 1 := ⟨RX3, TX3, 2, rfl, by decide, rfl, Or.inr ⟨_, List.mem_of_getElem? tw_144⟩⟩
theorem fk_X5_9 : fOK RX5 9 5 0 := ⟨RX5, TX5, 12, rfl, by decide, rfl, Or.inl (xws tw_156 rfl)⟩
theorem fk_X5_15 : fOK RX5 15 5 1 := ⟨RX5, TX5, 12, rfl, by decide, rfl, Or.inl (xws tw_157 rfl)⟩
theorem fk_X5_18 : fOK RX5 18 5 2 := ⟨RX5, TX5, 12, rfl, by decide, rfl, Or.inl (xws tw_158 rfl)⟩
theorem fk_X5_21 : fOK RX5 21 5 3 := ⟨RX5, TX5, 12, rfl, by decide, rfl, Or.inl (xws tw_159 rfl)⟩
theorem fk_X5_24 : fOK RX5 24 5 4 := ⟨RX5, TX5, 12, rfl, by decide, rfl, Or.inl (xws tw_160 rfl)⟩
theorem fk_X5_102 : fOK RX5 102 5 5 := ⟨RX5, TX5, 12, rfl, by decide, rfl, Or.inl (xws tw_161 rfl)⟩
theorem fk_X5_42 : fOK RX5 42 5 6 := ⟨RX5, TX5, 12, rfl, by decide, rfl, Or.inl (xws tw_162 rfl)⟩
theorem fk_X5_47 : fOK RX5 47 5 7 := ⟨RX5, TX5, 12, rfl, by decide, rfl, Or.inl (xws tw_163 rfl)⟩
theorem fk_X5_27 : fOK RX5 27 5 8 := ⟨RX5, TX5, 12, rfl, by decide, rfl, Or.inl (xws tw_164 rfl)⟩
theorem fk_X1_62 : fOK RX1 62 5 8 := ⟨RX5, TX5, 12, rfl, by decide, rfl, Or.inr ⟨_, List.mem_of_getElem? tw_165⟩⟩
theorem fk_X6_155 : fOK RX6 155 5 8 := ⟨RX5, TX5, 12, rfl, by decide, rfl, Or.inr ⟨_, List.mem_of_getElem? tw_166⟩⟩
theorem fk_X5_30 : fOK RX5 30 5 9 := ⟨RX5, TX5, 12, rfl, by decide, rfl, Or.inl (xws tw_167 rfl)⟩
theorem fk_X1_65 : fOK RX1 65 5 9 := ⟨RX5, TX5, 12, rfl, by decide, rfl, Or.inr ⟨_, List.mem_of_getElem? tw_168⟩⟩
theorem fk_X6_158 : fOK RX6 158 5 9 := ⟨RX5, TX5, 12, rfl, by decide, rfl, Or.inr ⟨_, List.mem_of_getElem? tw_169⟩⟩
theorem fk_X5_33 : fOK RX5 33 5 10 := ⟨RX5, TX5, 12, rfl, by decide, rfl, Or.inl (xws tw_170 rfl)⟩
theorem fk_X0_40 : fOK RX0 40 5 10 := ⟨RX5, TX5, 12, rfl, by decide, rfl, Or.inr ⟨_, List.mem_of_getElem? tw_171⟩⟩
theorem fk_X1_68 : fOK RX1 68 5 10 := ⟨RX5, TX5, 12, rfl, by decide, rfl, Or.inr ⟨_, List.mem_of_getElem? tw_172⟩⟩
theorem fk_X6_161 : fOK RX6 161 5 10 := ⟨RX5, TX5, 12, rfl, by decide, rfl, Or.inr ⟨_, List.mem_of_getElem? tw_173⟩⟩
theorem fk_X0_33 : fOK RX0 33 5 11 := ⟨RX5, TX5, 12, rfl, by decide, rfl, Or.inr ⟨_, List.mem_of_getElem? tw_174⟩⟩
theorem fk_X1_59 : fOK RX1 59 5 11 := ⟨RX5, TX5, 12, rfl, by decide, rfl, Or.inr ⟨_, List.mem_of_getElem? tw_175⟩⟩
theorem fk_X5_109 : fOK RX5 109 5 11 := ⟨RX5, TX5, 12, rfl, by decide, rfl, Or.inl (xws tw_176 rfl)⟩
theorem fk_X6_152 : fOK RX6 152 5 11 := ⟨RX5, TX5, 12, rfl, by decide, rfl, Or.inr ⟨_, List.mem_of_getElem? tw_177⟩⟩
theorem fk_X1_9 : fOK RX1 9 1 0 := ⟨RX1, TX1, 6, rfl, by decide, rfl, Or.inl (xws tw_209 rfl)⟩
theorem fk_X6_185 : fOK RX6 185 1 0 := ⟨RX1, TX1, 6, rfl, by decide, rfl, Or.inr ⟨_, List.mem_of_getElem? tw_210⟩⟩
theorem fk_X1_15 : fOK RX1 15 1 1 := ⟨RX1, TX1, 6, rfl, by decide, rfl, Or.inl (xws tw_211 rfl)⟩
theorem fk_X6_188 : fOK RX6 188 1 1 := ⟨RX1, TX1, 6, rfl, by decide, rfl, Or.inr ⟨_, List.mem_of_getElem? tw_212⟩⟩
theorem fk_X1_18 : fOK RX1 18 1 2 := ⟨RX1, TX1, 6, rfl, by decide, rfl, Or.inl (xws tw_213 rfl)⟩
theorem fk_X6_191 : fOK RX6 191 1 2 := ⟨RX1, TX1, 6, rfl, by decide, rfl, Or.inr ⟨_, List.mem_of_getElem? tw_214⟩⟩
theorem fk_X1_21 : fOK RX1 21 1 3 := ⟨RX1, TX1, 6, rfl, by decide, rfl, Or.inl (xws tw_215 rfl)⟩
theorem fk_X6_184 : fOK RX6 184 1 3 := ⟨RX1, TX1, 6, rfl, by decide, rfl, Or.inr ⟨_, List.mem_of_getElem? tw_216⟩⟩
theorem fk_X1_34 : fOK RX1 34 1 4 := ⟨RX1, TX1, 6, rfl, by decide, rfl, Or.inl (xws tw_217 rfl)⟩
theorem fk_X6_194 : fOK RX6 194 1 4 := ⟨RX1, TX1, 6, rfl, by decide, rfl, Or.inr ⟨_, List.mem_of_getElem? tw_218⟩⟩
theorem fk_X1_25 : fOK RX1 25 1 5 := ⟨RX1, TX1, 6, rfl, by decide, rfl, Or.inl (xws tw_219 rfl)⟩
theorem fk_X6_197 : fOK RX6 197 1 5 := ⟨RX1, TX1, 6, rfl, by decide, rfl, Or.inr ⟨_, List.mem_of_getElem? tw_220⟩⟩
theorem fk_X0_9 : fOK RX0 9 0 0 := ⟨RX0, TX0, 2, rfl, by decide, rfl, Or.inl (xws tw_240 rfl)⟩
theorem fk_X0_25 : fOK RX0 25 0 1 := ⟨RX0, TX0, 2, rfl, by decide, rfl, Or.inl (xws tw_241 rfl)⟩
theorem sk_X6_62 : Cond.fieldLink RX6 62 "ShiftedShapes" "FIRST_TIMES" "[I" ∈ xWS := xws tw_247 rfl
theorem sk_X6_66 : Cond.fieldLink RX6 66 "ShiftedShapes" "FIRST_PITCHES" "[I" ∈ xWS := xws tw_249 rfl
theorem fk_X6_12 : fOK RX6 12 6 0 := ⟨RX6, TX6, 13, rfl, by decide, rfl, Or.inl (xws tw_258 rfl)⟩
theorem fk_X6_19 : fOK RX6 19 6 1 := ⟨RX6, TX6, 13, rfl, by decide, rfl, Or.inl (xws tw_259 rfl)⟩
theorem fk_X6_23 : fOK RX6 23 6 2 := ⟨RX6, TX6, 13, rfl, by decide, rfl, Or.inl (xws tw_260 rfl)⟩
theorem fk_X6_31 : fOK RX6 31 6 3 := ⟨RX6, TX6, 13, rfl, by decide, rfl, Or.inl (xws tw_261 rfl)⟩
theorem fk_X6_35 : fOK RX6 35 6 4 := ⟨RX6, TX6, 13, rfl, by decide, rfl, Or.inl (xws tw_262 rfl)⟩
theorem fk_X6_41 : fOK RX6 41 6 5 := ⟨RX6, TX6, 13, rfl, by decide, rfl, Or.inl (xws tw_263 rfl)⟩
theorem fk_X6_45 : fOK RX6 45 6 6 := ⟨RX6, TX6, 13, rfl, by decide, rfl, Or.inl (xws tw_264 rfl)⟩
theorem fk_X6_51 : fOK RX6 51 6 7 := ⟨RX6, TX6, 13, rfl, by decide, rfl, Or.inl (xws tw_265 rfl)⟩
theorem fk_X6_58 : fOK RX6 58 6 8 := ⟨RX6, TX6, 13, rfl, by decide, rfl, Or.inl (xws tw_266 rfl)⟩
theorem fk_X6_241 : fOK RX6 241 6 9 := ⟨RX6, TX6, 13, rfl, by decide, rfl, Or.inl (xws tw_267 rfl)⟩
theorem fk_X6_217 : fOK RX6 217 6 10 := ⟨RX6, TX6, 13, rfl, by decide, rfl, Or.inl (xws tw_268 rfl)⟩
theorem fk_X6_224 : fOK RX6 224 6 11 := ⟨RX6, TX6, 13, rfl, by decide, rfl, Or.inl (xws tw_269 rfl)⟩
theorem fk_X6_227 : fOK RX6 227 6 12 := ⟨RX6, TX6, 13, rfl, by decide, rfl, Or.inl (xws tw_270 rfl)⟩
theorem fk_X7_7 : fOK RX7 7 7 0 := ⟨RX7, TX7, 27, rfl, by decide, rfl, Or.inl (xws tw_671 rfl)⟩
theorem fk_X7_13 : fOK RX7 13 7 1 := ⟨RX7, TX7, 27, rfl, by decide, rfl, Or.inl (xws tw_672 rfl)⟩
theorem fk_X7_16 : fOK RX7 16 7 2 := ⟨RX7, TX7, 27, rfl, by decide, rfl, Or.inl (xws tw_673 rfl)⟩
theorem fk_X7_19 : fOK RX7 19 7 3 := ⟨RX7, TX7, 27, rfl, by decide, rfl, Or.inl (xws tw_674 rfl)⟩
theorem fk_X7_86 : fOK RX7 86 7 4 := ⟨RX7, TX7, 27, rfl, by decide, rfl, Or.inl (xws tw_675 rfl)⟩
theorem fk_X7_22 : fOK RX7 22 7 5 := ⟨RX7, TX7, 27, rfl, by decide, rfl, Or.inl (xws tw_676 rfl)⟩
theorem fk_X7_89 : fOK RX7 89 7 6 := ⟨RX7, TX7, 27, rfl, by decide, rfl, Or.inl (xws tw_677 rfl)⟩
theorem fk_X7_25 : fOK RX7 25 7 7 := ⟨RX7, TX7, 27, rfl, by decide, rfl, Or.inl (xws tw_678 rfl)⟩
theorem fk_X7_61 : fOK RX7 61 7 8 := ⟨RX7, TX7, 27, rfl, by decide, rfl, Or.inl (xws tw_679 rfl)⟩
theorem fk_X7_57 : fOK RX7 57 7 9 := ⟨RX7, TX7, 27, rfl, by decide, rfl, Or.inl (xws tw_680 rfl)⟩
theorem fk_X7_28 : fOK RX7 28 7 10 := ⟨RX7, TX7, 27, rfl, by decide, rfl, Or.inl (xws tw_681 rfl)⟩
theorem fk_X7_31 : fOK RX7 31 7 11 := ⟨RX7, TX7, 27, rfl, by decide, rfl, Or.inl (xws tw_682 rfl)⟩
theorem fk_X7_110 : fOK RX7 110 7 12 := ⟨RX7, TX7, 27, rfl, by decide, rfl, Or.inl (xws tw_683 rfl)⟩
theorem fk_X7_126 : fOK RX7 126 7 13 := ⟨RX7, TX7, 27, rfl, by decide, rfl, Or.inl (xws tw_684 rfl)⟩
theorem fk_X7_129 : fOK RX7 129 7 14 := ⟨RX7, TX7, 27, rfl, by decide, rfl, Or.inl (xws tw_685 rfl)⟩
theorem fk_X7_136 : fOK RX7 136 7 15 := ⟨RX7, TX7, 27, rfl, by decide, rfl, Or.inl (xws tw_686 rfl)⟩
theorem fk_X7_34 : fOK RX7 34 7 16 := ⟨RX7, TX7, 27, rfl, by decide, rfl, Or.inl (xws tw_687 rfl)⟩
theorem fk_X7_148 : fOK RX7 148 7 17 := ⟨RX7, TX7, 27, rfl, by decide, rfl, Or.inl (xws tw_688 rfl)⟩
theorem fk_X7_151 : fOK RX7 151 7 18 := ⟨RX7, TX7, 27, rfl, by decide, rfl, Or.inl (xws tw_689 rfl)⟩
theorem fk_X7_154 : fOK RX7 154 7 19 := ⟨RX7, TX7, 27, rfl, by decide, rfl, Or.inl (xws tw_690 rfl)⟩
theorem fk_X7_163 : fOK RX7 163 7 20 := ⟨RX7, TX7, 27, rfl, by decide, rfl, Or.inl (xws tw_691 rfl)⟩
theorem fk_X7_173 : fOK RX7 173 7 21 := ⟨RX7, TX7, 27, rfl, by decide, rfl, Or.inl (xws tw_692 rfl)⟩
theorem fk_X7_37 : fOK RX7 37 7 22 := ⟨RX7, TX7, 27, rfl, by decide, rfl, Or.inl (xws tw_693 rfl)⟩
theorem fk_X7_176 : fOK RX7 176 7 23 := ⟨RX7, TX7, 27, rfl, by decide, rfl, Or.inl (xws tw_694 rfl)⟩
theorem fk_X7_179 : fOK RX7 179 7 24 := ⟨RX7, TX7, 27, rfl, by decide, rfl, Or.inl (xws tw_695 rfl)⟩
theorem fk_X7_40 : fOK RX7 40 7 25 := ⟨RX7, TX7, 27, rfl, by decide, rfl, Or.inl (xws tw_696 rfl)⟩
theorem fk_X7_43 : fOK RX7 43 7 26 := ⟨RX7, TX7, 27, rfl, by decide, rfl, Or.inl (xws tw_697 rfl)⟩
theorem ykX0_init : yOK yX0_init cX0_init 1 none 0 := ⟨(xws tw_238 rfl), (xws tw_77 rfl), by decide +kernel, by decide +kernel⟩
theorem nkX0_init : nOK yX0_init := ⟨rfl, (xws tw_237 rfl)⟩
theorem ykX0_fewestOf : yOK yX0_fewestOf cX0_fewestOf 4 ((some .int)) 1 := ⟨(xws tw_602 rfl), (xws tw_77 rfl), by decide +kernel, by decide +kernel⟩
theorem vkX0_fewestOf : vOK yX0_fewestOf := ⟨(xws tw_601 rfl), (xws tw_44 rfl)⟩
theorem ykX0_gather : yOK yX0_gather cX0_gather 3 none 1 := ⟨(xws tw_606 rfl), (xws tw_77 rfl), by decide +kernel, by decide +kernel⟩
theorem vkX0_gather : vOK yX0_gather := ⟨(xws tw_605 rfl), (xws tw_45 rfl)⟩
theorem ykX0_isWithinAnother : yOK yX0_isWithinAnother cX0_isWithinAnother 6 ((some .boolean)) 2 := ⟨(xws tw_609 rfl), (xws tw_77 rfl), by decide +kernel, by decide +kernel⟩
theorem zkX0_isWithinAnother : Cond.static yX0_isWithinAnother ∈ xWS := (xws tw_608 rfl)
theorem ykX0_isReached : yOK yX0_isReached cX0_isReached 6 ((some .boolean)) 4 := ⟨(xws tw_616 rfl), (xws tw_77 rfl), by decide +kernel, by decide +kernel⟩
theorem zkX0_isReached : Cond.static yX0_isReached ∈ xWS := (xws tw_615 rfl)
theorem ykX1_init : yOK yX1_init cX1_init 1 none 0 := ⟨(xws tw_207 rfl), (xws tw_76 rfl), by decide +kernel, by decide +kernel⟩
theorem nkX1_init : nOK yX1_init := ⟨rfl, (xws tw_206 rfl)⟩
theorem ykX1_takeApart : yOK yX1_takeApart cX1_takeApart 6 none 2 := ⟨(xws tw_581 rfl), (xws tw_76 rfl), by decide +kernel, by decide +kernel⟩
theorem vkX1_takeApart : vOK yX1_takeApart := ⟨(xws tw_580 rfl), (xws tw_42 rfl)⟩
theorem ykX1_setAside : yOK yX1_setAside cX1_setAside 3 none 2 := ⟨(xws tw_589 rfl), (xws tw_76 rfl), by decide +kernel, by decide +kernel⟩
theorem vkX1_setAside : vOK yX1_setAside := ⟨(xws tw_588 rfl), (xws tw_43 rfl)⟩
theorem ykX2_init : yOK yX2_init cX2_init 1 none 0 := ⟨(xws tw_112 rfl), (xws tw_72 rfl), by decide +kernel, by decide +kernel⟩
theorem nkX2_init : nOK yX2_init := ⟨rfl, (xws tw_111 rfl)⟩
theorem ykX2_timeOf : yOK yX2_timeOf cX2_timeOf 2 ((some .int)) 1 := ⟨(xws tw_378 rfl), (xws tw_72 rfl), by decide +kernel, by decide +kernel⟩
theorem vkX2_timeOf : vOK yX2_timeOf := ⟨(xws tw_377 rfl), (xws tw_13 rfl)⟩
theorem ykX2_pitchOf : yOK yX2_pitchOf cX2_pitchOf 2 ((some .int)) 1 := ⟨(xws tw_382 rfl), (xws tw_72 rfl), by decide +kernel, by decide +kernel⟩
theorem vkX2_pitchOf : vOK yX2_pitchOf := ⟨(xws tw_381 rfl), (xws tw_14 rfl)⟩
theorem ykX2_allNotes : yOK yX2_allNotes cX2_allNotes 1 ((some .int)) 0 := ⟨(xws tw_457 rfl), (xws tw_72 rfl), by decide +kernel, by decide +kernel⟩
theorem vkX2_allNotes : vOK yX2_allNotes := ⟨(xws tw_456 rfl), (xws tw_25 rfl)⟩
theorem ykX2_numberOf : yOK yX2_numberOf cX2_numberOf 3 ((some .int)) 1 := ⟨(xws tw_346 rfl), (xws tw_72 rfl), by decide +kernel, by decide +kernel⟩
theorem vkX2_numberOf : vOK yX2_numberOf := ⟨(xws tw_345 rfl), (xws tw_8 rfl)⟩
theorem ykX2_insert : yOK yX2_insert cX2_insert 3 ((some .int)) 1 := ⟨(xws tw_257 rfl), (xws tw_72 rfl), by decide +kernel, by decide +kernel⟩
theorem vkX2_insert : vOK yX2_insert := ⟨(xws tw_256 rfl), (xws tw_0 rfl)⟩
theorem ykX2_remove : yOK yX2_remove cX2_remove 3 none 1 := ⟨(xws tw_409 rfl), (xws tw_72 rfl), by decide +kernel, by decide +kernel⟩
theorem vkX2_remove : vOK yX2_remove := ⟨(xws tw_408 rfl), (xws tw_18 rfl)⟩
theorem ykX2_moveAll : yOK yX2_moveAll cX2_moveAll 3 none 1 := ⟨(xws tw_433 rfl), (xws tw_72 rfl), by decide +kernel, by decide +kernel⟩
theorem vkX2_moveAll : vOK yX2_moveAll := ⟨(xws tw_432 rfl), (xws tw_22 rfl)⟩
theorem ykX2_copyFrom : yOK yX2_copyFrom cX2_copyFrom 2 none 1 := ⟨(xws tw_359 rfl), (xws tw_72 rfl), by decide +kernel, by decide +kernel⟩
theorem vkX2_copyFrom : vOK yX2_copyFrom := ⟨(xws tw_358 rfl), (xws tw_10 rfl)⟩
theorem ykX3_init : yOK yX3_init cX3_init 3 none 1 := ⟨(xws tw_134 rfl), (xws tw_73 rfl), by decide +kernel, by decide +kernel⟩
theorem nkX3_init : nOK yX3_init := ⟨rfl, (xws tw_133 rfl)⟩
theorem ykX3_push : yOK yX3_push cX3_push 2 none 1 := ⟨(xws tw_396 rfl), (xws tw_73 rfl), by decide +kernel, by decide +kernel⟩
theorem vkX3_push : vOK yX3_push := ⟨(xws tw_395 rfl), (xws tw_16 rfl)⟩
theorem ykX3_popInto : yOK yX3_popInto cX3_popInto 2 none 1 := ⟨(xws tw_445 rfl), (xws tw_73 rfl), by decide +kernel, by decide +kernel⟩
theorem vkX3_popInto : vOK yX3_popInto := ⟨(xws tw_444 rfl), (xws tw_23 rfl)⟩
theorem ykX3_dropOldest : yOK yX3_dropOldest cX3_dropOldest 3 none 0 := ⟨(xws tw_400 rfl), (xws tw_73 rfl), by decide +kernel, by decide +kernel⟩
theorem vkX3_dropOldest : vOK yX3_dropOldest := ⟨(xws tw_399 rfl), (xws tw_17 rfl)⟩
theorem ykX4_init : yOK yX4_init cX4_init 1 none 0 := ⟨(xws tw_94 rfl), (xws tw_71 rfl), by decide +kernel, by decide +kernel⟩
theorem nkX4_init : nOK yX4_init := ⟨rfl, (xws tw_93 rfl)⟩
theorem ykX4_append : yOK yX4_append cX4_append 2 ((some .boolean)) 1 := ⟨(xws tw_305 rfl), (xws tw_71 rfl), by decide +kernel, by decide +kernel⟩
theorem vkX4_append : vOK yX4_append := ⟨(xws tw_304 rfl), (xws tw_1 rfl)⟩
theorem ykX4_readInto : yOK yX4_readInto cX4_readInto 4 ((some .int)) 1 := ⟨(xws tw_317 rfl), (xws tw_71 rfl), by decide +kernel, by decide +kernel⟩
theorem vkX4_readInto : vOK yX4_readInto := ⟨(xws tw_316 rfl), (xws tw_2 rfl)⟩
theorem ykX4_readItem : yOK yX4_readItem cX4_readItem 2 ((some .boolean)) 1 := ⟨(xws tw_321 rfl), (xws tw_71 rfl), by decide +kernel, by decide +kernel⟩
theorem vkX4_readItem : vOK yX4_readItem := ⟨(xws tw_320 rfl), (xws tw_3 rfl)⟩
theorem ykX4_readNote : yOK yX4_readNote cX4_readNote 4 ((some .boolean)) 1 := ⟨(xws tw_329 rfl), (xws tw_71 rfl), by decide +kernel, by decide +kernel⟩
theorem vkX4_readNote : vOK yX4_readNote := ⟨(xws tw_328 rfl), (xws tw_5 rfl)⟩
theorem ykX4_readManner : yOK yX4_readManner cX4_readManner 3 ((some .boolean)) 1 := ⟨(xws tw_351 rfl), (xws tw_71 rfl), by decide +kernel, by decide +kernel⟩
theorem vkX4_readManner : vOK yX4_readManner := ⟨(xws tw_350 rfl), (xws tw_9 rfl)⟩
theorem ykX4_readNumber : yOK yX4_readNumber cX4_readNumber 3 ((some .int)) 0 := ⟨(xws tw_333 rfl), (xws tw_71 rfl), by decide +kernel, by decide +kernel⟩
theorem vkX4_readNumber : vOK yX4_readNumber := ⟨(xws tw_332 rfl), (xws tw_6 rfl)⟩
theorem ykX4_isFigure : yOK yX4_isFigure cX4_isFigure 1 ((some .boolean)) 0 := ⟨(xws tw_337 rfl), (xws tw_71 rfl), by decide +kernel, by decide +kernel⟩
theorem vkX4_isFigure : vOK yX4_isFigure := ⟨(xws tw_336 rfl), (xws tw_7 rfl)⟩
theorem ykX4_skip : yOK yX4_skip cX4_skip 2 ((some .boolean)) 1 := ⟨(xws tw_325 rfl), (xws tw_71 rfl), by decide +kernel, by decide +kernel⟩
theorem vkX4_skip : vOK yX4_skip := ⟨(xws tw_324 rfl), (xws tw_4 rfl)⟩
theorem ykX5_init : yOK yX5_init cX5_init 1 none 0 := ⟨(xws tw_154 rfl), (xws tw_75 rfl), by decide +kernel, by decide +kernel⟩
theorem nkX5_init : nOK yX5_init := ⟨rfl, (xws tw_153 rfl)⟩
theorem ykX5_lookOver : yOK yX5_lookOver cX5_lookOver 4 none 2 := ⟨(xws tw_461 rfl), (xws tw_75 rfl), by decide +kernel, by decide +kernel⟩
theorem vkX5_lookOver : vOK yX5_lookOver := ⟨(xws tw_460 rfl), (xws tw_26 rfl)⟩
theorem ykX5_has : yOK yX5_has cX5_has 2 ((some .boolean)) 2 := ⟨(xws tw_470 rfl), (xws tw_75 rfl), by decide +kernel, by decide +kernel⟩
theorem zkX5_has : Cond.static yX5_has ∈ xWS := (xws tw_469 rfl)
theorem ykX5_hasTwo : yOK yX5_hasTwo cX5_hasTwo 1 ((some .boolean)) 1 := ⟨(xws tw_499 rfl), (xws tw_75 rfl), by decide +kernel, by decide +kernel⟩
theorem zkX5_hasTwo : Cond.static yX5_hasTwo ∈ xWS := (xws tw_498 rfl)
theorem ykX5_shiftOf : yOK yX5_shiftOf cX5_shiftOf 2 ((some .int)) 2 := ⟨(xws tw_492 rfl), (xws tw_75 rfl), by decide +kernel, by decide +kernel⟩
theorem zkX5_shiftOf : Cond.static yX5_shiftOf ∈ xWS := (xws tw_491 rfl)
theorem ykX5_timePart : yOK yX5_timePart cX5_timePart 1 ((some .int)) 1 := ⟨(xws tw_514 rfl), (xws tw_75 rfl), by decide +kernel, by decide +kernel⟩
theorem zkX5_timePart : Cond.static yX5_timePart ∈ xWS := (xws tw_513 rfl)
theorem ykX5_pitchPart : yOK yX5_pitchPart cX5_pitchPart 1 ((some .int)) 1 := ⟨(xws tw_517 rfl), (xws tw_75 rfl), by decide +kernel, by decide +kernel⟩
theorem zkX5_pitchPart : Cond.static yX5_pitchPart ∈ xWS := (xws tw_516 rfl)
theorem ykX5_findLargests : yOK yX5_findLargests cX5_findLargests 3 none 0 := ⟨(xws tw_475 rfl), (xws tw_75 rfl), by decide +kernel, by decide +kernel⟩
theorem vkX5_findLargests : vOK yX5_findLargests := ⟨(xws tw_474 rfl), (xws tw_27 rfl)⟩
theorem ykX5_enterPair : yOK yX5_enterPair cX5_enterPair 5 none 2 := ⟨(xws tw_479 rfl), (xws tw_75 rfl), by decide +kernel, by decide +kernel⟩
theorem vkX5_enterPair : vOK yX5_enterPair := ⟨(xws tw_478 rfl), (xws tw_28 rfl)⟩
theorem ykX5_enter : yOK yX5_enter cX5_enter 4 none 3 := ⟨(xws tw_486 rfl), (xws tw_75 rfl), by decide +kernel, by decide +kernel⟩
theorem vkX5_enter : vOK yX5_enter := ⟨(xws tw_485 rfl), (xws tw_29 rfl)⟩
theorem ykX5_isHeld : yOK yX5_isHeld cX5_isHeld 2 ((some .boolean)) 2 := ⟨(xws tw_489 rfl), (xws tw_75 rfl), by decide +kernel, by decide +kernel⟩
theorem zkX5_isHeld : Cond.static yX5_isHeld ∈ xWS := (xws tw_488 rfl)
theorem ykX5_findWideShifts : yOK yX5_findWideShifts cX5_findWideShifts 2 none 0 := ⟨(xws tw_496 rfl), (xws tw_75 rfl), by decide +kernel, by decide +kernel⟩
theorem vkX5_findWideShifts : vOK yX5_findWideShifts := ⟨(xws tw_495 rfl), (xws tw_30 rfl)⟩
theorem ykX5_findShapes : yOK yX5_findShapes cX5_findShapes 3 none 0 := ⟨(xws tw_503 rfl), (xws tw_75 rfl), by decide +kernel, by decide +kernel⟩
theorem vkX5_findShapes : vOK yX5_findShapes := ⟨(xws tw_502 rfl), (xws tw_31 rfl)⟩
theorem ykX5_isShape : yOK yX5_isShape cX5_isShape 3 ((some .boolean)) 1 := ⟨(xws tw_507 rfl), (xws tw_75 rfl), by decide +kernel, by decide +kernel⟩
theorem vkX5_isShape : vOK yX5_isShape := ⟨(xws tw_506 rfl), (xws tw_32 rfl)⟩
theorem ykX5_measureShape : yOK yX5_measureShape cX5_measureShape 9 none 1 := ⟨(xws tw_511 rfl), (xws tw_75 rfl), by decide +kernel, by decide +kernel⟩
theorem vkX5_measureShape : vOK yX5_measureShape := ⟨(xws tw_510 rfl), (xws tw_33 rfl)⟩
theorem ykX5_met : yOK yX5_met cX5_met 7 ((some .int)) 3 := ⟨(xws tw_521 rfl), (xws tw_75 rfl), by decide +kernel, by decide +kernel⟩
theorem vkX5_met : vOK yX5_met := ⟨(xws tw_520 rfl), (xws tw_34 rfl)⟩
theorem ykX5_numberAt : yOK yX5_numberAt cX5_numberAt 3 ((some .int)) 2 := ⟨(xws tw_525 rfl), (xws tw_75 rfl), by decide +kernel, by decide +kernel⟩
theorem vkX5_numberAt : vOK yX5_numberAt := ⟨(xws tw_524 rfl), (xws tw_35 rfl)⟩
theorem ykX5_largestOf : yOK yX5_largestOf cX5_largestOf 3 ((some .int)) 2 := ⟨(xws tw_529 rfl), (xws tw_75 rfl), by decide +kernel, by decide +kernel⟩
theorem vkX5_largestOf : vOK yX5_largestOf := ⟨(xws tw_528 rfl), (xws tw_36 rfl)⟩
theorem ykX5_placesOf : yOK yX5_placesOf cX5_placesOf 4 ((some .int)) 1 := ⟨(xws tw_556 rfl), (xws tw_75 rfl), by decide +kernel, by decide +kernel⟩
theorem vkX5_placesOf : vOK yX5_placesOf := ⟨(xws tw_555 rfl), (xws tw_38 rfl)⟩
theorem ykX5_placeOf : yOK yX5_placeOf cX5_placeOf 5 ((some .int)) 2 := ⟨(xws tw_560 rfl), (xws tw_75 rfl), by decide +kernel, by decide +kernel⟩
theorem vkX5_placeOf : vOK yX5_placeOf := ⟨(xws tw_559 rfl), (xws tw_39 rfl)⟩
theorem ykX5_gainOf : yOK yX5_gainOf cX5_gainOf 2 ((some .int)) 1 := ⟨(xws tw_542 rfl), (xws tw_75 rfl), by decide +kernel, by decide +kernel⟩
theorem vkX5_gainOf : vOK yX5_gainOf := ⟨(xws tw_541 rfl), (xws tw_37 rfl)⟩
theorem ykX5_bestShape : yOK yX5_bestShape cX5_bestShape 3 ((some .int)) 0 := ⟨(xws tw_568 rfl), (xws tw_75 rfl), by decide +kernel, by decide +kernel⟩
theorem vkX5_bestShape : vOK yX5_bestShape := ⟨(xws tw_567 rfl), (xws tw_40 rfl)⟩
theorem ykX5_isBetter : yOK yX5_isBetter cX5_isBetter 5 ((some .boolean)) 2 := ⟨(xws tw_572 rfl), (xws tw_75 rfl), by decide +kernel, by decide +kernel⟩
theorem vkX5_isBetter : vOK yX5_isBetter := ⟨(xws tw_571 rfl), (xws tw_41 rfl)⟩
theorem ykX5_covered : yOK yX5_covered cX5_covered 3 ((some .int)) 0 := ⟨(xws tw_613 rfl), (xws tw_75 rfl), by decide +kernel, by decide +kernel⟩
theorem vkX5_covered : vOK yX5_covered := ⟨(xws tw_612 rfl), (xws tw_46 rfl)⟩
theorem ykX6_init : yOK yX6_init cX6_init 2 none 0 := ⟨(xws tw_86 rfl), (xws tw_70 rfl), by decide +kernel, by decide +kernel⟩
theorem nkX6_init : nOK yX6_init := ⟨rfl, (xws tw_85 rfl)⟩
theorem ykX6_write : yOK yX6_write cX6_write 2 ((some .int)) 1 := ⟨(xws tw_301 rfl), (xws tw_70 rfl), by decide +kernel, by decide +kernel⟩
theorem vkX6_write : vOK yX6_write := ⟨(xws tw_299 rfl), (xws tw_300 rfl)⟩
theorem ykX6_wipe : yOK yX6_wipe cX6_wipe 2 ((some .int)) 0 := ⟨(xws tw_309 rfl), (xws tw_70 rfl), by decide +kernel, by decide +kernel⟩
theorem vkX6_wipe : vOK yX6_wipe := ⟨(xws tw_307 rfl), (xws tw_308 rfl)⟩
theorem ykX6_fault : yOK yX6_fault cX6_fault 1 ((some .int)) 0 := ⟨(xws tw_313 rfl), (xws tw_70 rfl), by decide +kernel, by decide +kernel⟩
theorem vkX6_fault : vOK yX6_fault := ⟨(xws tw_311 rfl), (xws tw_312 rfl)⟩
theorem ykX6_lay : yOK yX6_lay cX6_lay 1 ((some .int)) 0 := ⟨(xws tw_355 rfl), (xws tw_70 rfl), by decide +kernel, by decide +kernel⟩
theorem vkX6_lay : vOK yX6_lay := ⟨(xws tw_353 rfl), (xws tw_354 rfl)⟩
theorem ykX6_note : yOK yX6_note cX6_note 3 ((some .int)) 2 := ⟨(xws tw_370 rfl), (xws tw_70 rfl), by decide +kernel, by decide +kernel⟩
theorem vkX6_note : vOK yX6_note := ⟨(xws tw_368 rfl), (xws tw_369 rfl)⟩
theorem ykX6_put : yOK yX6_put cX6_put 3 ((some .int)) 2 := ⟨(xws tw_386 rfl), (xws tw_70 rfl), by decide +kernel, by decide +kernel⟩
theorem vkX6_put : vOK yX6_put := ⟨(xws tw_384 rfl), (xws tw_385 rfl)⟩
theorem ykX6_take : yOK yX6_take cX6_take 2 ((some .int)) 1 := ⟨(xws tw_405 rfl), (xws tw_70 rfl), by decide +kernel, by decide +kernel⟩
theorem vkX6_take : vOK yX6_take := ⟨(xws tw_403 rfl), (xws tw_404 rfl)⟩
theorem ykX6_shift : yOK yX6_shift cX6_shift 5 ((some .int)) 3 := ⟨(xws tw_413 rfl), (xws tw_70 rfl), by decide +kernel, by decide +kernel⟩
theorem vkX6_shift : vOK yX6_shift := ⟨(xws tw_411 rfl), (xws tw_412 rfl)⟩
theorem ykX6_shiftAll : yOK yX6_shiftAll cX6_shiftAll 4 ((some .int)) 2 := ⟨(xws tw_429 rfl), (xws tw_70 rfl), by decide +kernel, by decide +kernel⟩
theorem vkX6_shiftAll : vOK yX6_shiftAll := ⟨(xws tw_427 rfl), (xws tw_428 rfl)⟩
theorem ykX6_mode : yOK yX6_mode cX6_mode 3 ((some .int)) 1 := ⟨(xws tw_437 rfl), (xws tw_70 rfl), by decide +kernel, by decide +kernel⟩
theorem vkX6_mode : vOK yX6_mode := ⟨(xws tw_435 rfl), (xws tw_436 rfl)⟩
theorem ykX6_undo : yOK yX6_undo cX6_undo 1 ((some .int)) 0 := ⟨(xws tw_441 rfl), (xws tw_70 rfl), by decide +kernel, by decide +kernel⟩
theorem vkX6_undo : vOK yX6_undo := ⟨(xws tw_439 rfl), (xws tw_440 rfl)⟩
theorem ykX6_largest : yOK yX6_largest cX6_largest 3 ((some .int)) 2 := ⟨(xws tw_449 rfl), (xws tw_70 rfl), by decide +kernel, by decide +kernel⟩
theorem vkX6_largest : vOK yX6_largest := ⟨(xws tw_447 rfl), (xws tw_448 rfl)⟩
theorem ykX6_meets : yOK yX6_meets cX6_meets 4 ((some .int)) 3 := ⟨(xws tw_533 rfl), (xws tw_70 rfl), by decide +kernel, by decide +kernel⟩
theorem vkX6_meets : vOK yX6_meets := ⟨(xws tw_531 rfl), (xws tw_532 rfl)⟩
theorem ykX6_shape : yOK yX6_shape cX6_shape 4 ((some .int)) 2 := ⟨(xws tw_538 rfl), (xws tw_70 rfl), by decide +kernel, by decide +kernel⟩
theorem vkX6_shape : vOK yX6_shape := ⟨(xws tw_536 rfl), (xws tw_537 rfl)⟩
theorem ykX6_place : yOK yX6_place cX6_place 3 ((some .int)) 2 := ⟨(xws tw_552 rfl), (xws tw_70 rfl), by decide +kernel, by decide +kernel⟩
theorem vkX6_place : vOK yX6_place := ⟨(xws tw_550 rfl), (xws tw_551 rfl)⟩
theorem ykX6_best : yOK yX6_best cX6_best 3 ((some .int)) 1 := ⟨(xws tw_564 rfl), (xws tw_70 rfl), by decide +kernel, by decide +kernel⟩
theorem vkX6_best : vOK yX6_best := ⟨(xws tw_562 rfl), (xws tw_563 rfl)⟩
theorem ykX6_parted : yOK yX6_parted cX6_parted 3 ((some .int)) 2 := ⟨(xws tw_577 rfl), (xws tw_70 rfl), by decide +kernel, by decide +kernel⟩
theorem vkX6_parted : vOK yX6_parted := ⟨(xws tw_575 rfl), (xws tw_576 rfl)⟩
theorem ykX6_parting : yOK yX6_parting cX6_parting 2 ((some .int)) 1 := ⟨(xws tw_594 rfl), (xws tw_70 rfl), by decide +kernel, by decide +kernel⟩
theorem vkX6_parting : vOK yX6_parting := ⟨(xws tw_592 rfl), (xws tw_593 rfl)⟩
theorem ykX6_shapes : yOK yX6_shapes cX6_shapes 2 ((some .int)) 1 := ⟨(xws tw_598 rfl), (xws tw_70 rfl), by decide +kernel, by decide +kernel⟩
theorem vkX6_shapes : vOK yX6_shapes := ⟨(xws tw_596 rfl), (xws tw_597 rfl)⟩
theorem ykX6_link : yOK yX6_link cX6_link 6 ((some .int)) 3 := ⟨(xws tw_621 rfl), (xws tw_70 rfl), by decide +kernel, by decide +kernel⟩
theorem vkX6_link : vOK yX6_link := ⟨(xws tw_619 rfl), (xws tw_620 rfl)⟩
theorem ykX6_better : yOK yX6_better cX6_better 2 ((some .int)) 1 := ⟨(xws tw_627 rfl), (xws tw_70 rfl), by decide +kernel, by decide +kernel⟩
theorem vkX6_better : vOK yX6_better := ⟨(xws tw_625 rfl), (xws tw_626 rfl)⟩
theorem ykX6_day : yOK yX6_day cX6_day 5 ((some .int)) 3 := ⟨(xws tw_635 rfl), (xws tw_70 rfl), by decide +kernel, by decide +kernel⟩
theorem vkX6_day : vOK yX6_day := ⟨(xws tw_633 rfl), (xws tw_634 rfl)⟩
theorem ykX6_keep : yOK yX6_keep cX6_keep 1 ((some .int)) 0 := ⟨(xws tw_646 rfl), (xws tw_70 rfl), by decide +kernel, by decide +kernel⟩
theorem vkX6_keep : vOK yX6_keep := ⟨(xws tw_644 rfl), (xws tw_645 rfl)⟩
theorem ykX6_back : yOK yX6_back cX6_back 1 ((some .int)) 0 := ⟨(xws tw_650 rfl), (xws tw_70 rfl), by decide +kernel, by decide +kernel⟩
theorem vkX6_back : vOK yX6_back := ⟨(xws tw_648 rfl), (xws tw_649 rfl)⟩
theorem ykX6_count : yOK yX6_count cX6_count 2 ((some .int)) 1 := ⟨(xws tw_654 rfl), (xws tw_70 rfl), by decide +kernel, by decide +kernel⟩
theorem vkX6_count : vOK yX6_count := ⟨(xws tw_652 rfl), (xws tw_653 rfl)⟩
theorem ykX6_beginAct : yOK yX6_beginAct cX6_beginAct 1 none 0 := ⟨(xws tw_392 rfl), (xws tw_70 rfl), by decide +kernel, by decide +kernel⟩
theorem vkX6_beginAct : vOK yX6_beginAct := ⟨(xws tw_391 rfl), (xws tw_15 rfl)⟩
theorem ykX6_forgetFindings : yOK yX6_forgetFindings cX6_forgetFindings 1 none 0 := ⟨(xws tw_366 rfl), (xws tw_70 rfl), by decide +kernel, by decide +kernel⟩
theorem vkX6_forgetFindings : vOK yX6_forgetFindings := ⟨(xws tw_365 rfl), (xws tw_11 rfl)⟩
theorem ykX6_wholeSearch : yOK yX6_wholeSearch cX6_wholeSearch 1 ((some (.object "ShiftedShapes$Search"))) 0 := ⟨(xws tw_453 rfl), (xws tw_70 rfl), by decide +kernel, by decide +kernel⟩
theorem vkX6_wholeSearch : vOK yX6_wholeSearch := ⟨(xws tw_452 rfl), (xws tw_24 rfl)⟩
theorem ykX6_findBetter : yOK yX6_findBetter cX6_findBetter 4 none 0 := ⟨(xws tw_631 rfl), (xws tw_70 rfl), by decide +kernel, by decide +kernel⟩
theorem vkX6_findBetter : vOK yX6_findBetter := ⟨(xws tw_630 rfl), (xws tw_47 rfl)⟩
theorem ykX6_drawOnce : yOK yX6_drawOnce cX6_drawOnce 8 none 2 := ⟨(xws tw_639 rfl), (xws tw_70 rfl), by decide +kernel, by decide +kernel⟩
theorem vkX6_drawOnce : vOK yX6_drawOnce := ⟨(xws tw_638 rfl), (xws tw_48 rfl)⟩
theorem ykX6_isNote : yOK yX6_isNote cX6_isNote 2 ((some .boolean)) 1 := ⟨(xws tw_374 rfl), (xws tw_70 rfl), by decide +kernel, by decide +kernel⟩
theorem vkX6_isNote : vOK yX6_isNote := ⟨(xws tw_373 rfl), (xws tw_12 rfl)⟩
theorem ykX6_isShift : yOK yX6_isShift cX6_isShift 4 ((some .boolean)) 2 := ⟨(xws tw_421 rfl), (xws tw_70 rfl), by decide +kernel, by decide +kernel⟩
theorem vkX6_isShift : vOK yX6_isShift := ⟨(xws tw_420 rfl), (xws tw_20 rfl)⟩
theorem ykX6_isMove : yOK yX6_isMove cX6_isMove 3 ((some .boolean)) 2 := ⟨(xws tw_417 rfl), (xws tw_70 rfl), by decide +kernel, by decide +kernel⟩
theorem vkX6_isMove : vOK yX6_isMove := ⟨(xws tw_416 rfl), (xws tw_19 rfl)⟩
theorem ykX6_staysWithin : yOK yX6_staysWithin cX6_staysWithin 4 ((some .boolean)) 3 := ⟨(xws tw_425 rfl), (xws tw_70 rfl), by decide +kernel, by decide +kernel⟩
theorem vkX6_staysWithin : vOK yX6_staysWithin := ⟨(xws tw_424 rfl), (xws tw_21 rfl)⟩
theorem ykX6_isWithin : yOK yX6_isWithin cX6_isWithin 2 ((some .boolean)) 2 := ⟨(xws tw_341 rfl), (xws tw_70 rfl), by decide +kernel, by decide +kernel⟩
theorem zkX6_isWithin : Cond.static yX6_isWithin ∈ xWS := (xws tw_340 rfl)
theorem ykX6_codeOf : yOK yX6_codeOf cX6_codeOf 2 ((some .int)) 2 := ⟨(xws tw_253 rfl), (xws tw_70 rfl), by decide +kernel, by decide +kernel⟩
theorem zkX6_codeOf : Cond.static yX6_codeOf ∈ xWS := (xws tw_252 rfl)
theorem ykX7_init : yOK yX7_init cX7_init 1 none 0 := ⟨(xws tw_659 rfl), (xws tw_78 rfl), by decide +kernel, by decide +kernel⟩
theorem nkX7_init : nOK yX7_init := ⟨rfl, (xws tw_658 rfl)⟩
theorem ykX7_begins : yOK yX7_begins cX7_begins 1 none 0 := ⟨(xws tw_664 rfl), (xws tw_78 rfl), by decide +kernel, by decide +kernel⟩
theorem vkX7_begins : vOK yX7_begins := ⟨(xws tw_663 rfl), (xws tw_49 rfl)⟩
theorem ykX7_in : yOK yX7_in cX7_in 3 ((some .boolean)) 3 := ⟨(xws tw_759 rfl), (xws tw_78 rfl), by decide +kernel, by decide +kernel⟩
theorem zkX7_in : Cond.static yX7_in ∈ xWS := (xws tw_758 rfl)
theorem ykX7_has : yOK yX7_has cX7_has 2 ((some .boolean)) 2 := ⟨(xws tw_850 rfl), (xws tw_78 rfl), by decide +kernel, by decide +kernel⟩
theorem zkX7_has : Cond.static yX7_has ∈ xWS := (xws tw_849 rfl)
theorem ykX7_bits : yOK yX7_bits cX7_bits 3 ((some .int)) 1 := ⟨(xws tw_877 rfl), (xws tw_78 rfl), by decide +kernel, by decide +kernel⟩
theorem zkX7_bits : Cond.static yX7_bits ∈ xWS := (xws tw_876 rfl)
theorem ykX7_copies : yOK yX7_copies cX7_copies 5 none 4 := ⟨(xws tw_670 rfl), (xws tw_78 rfl), by decide +kernel, by decide +kernel⟩
theorem zkX7_copies : Cond.static yX7_copies ∈ xWS := (xws tw_669 rfl)
theorem ykX7_numberOf : yOK yX7_numberOf cX7_numberOf 4 ((some .int)) 3 := ⟨(xws tw_786 rfl), (xws tw_78 rfl), by decide +kernel, by decide +kernel⟩
theorem zkX7_numberOf : Cond.static yX7_numberOf ∈ xWS := (xws tw_785 rfl)
theorem ykX7_puts : yOK yX7_puts cX7_puts 4 ((some .int)) 3 := ⟨(xws tw_667 rfl), (xws tw_78 rfl), by decide +kernel, by decide +kernel⟩
theorem zkX7_puts : Cond.static yX7_puts ∈ xWS := (xws tw_666 rfl)
theorem ykX7_leaves : yOK yX7_leaves cX7_leaves 3 none 2 := ⟨(xws tw_816 rfl), (xws tw_78 rfl), by decide +kernel, by decide +kernel⟩
theorem zkX7_leaves : Cond.static yX7_leaves ∈ xWS := (xws tw_815 rfl)
theorem ykX7_here : yOK yX7_here cX7_here 1 ((some .int)) 0 := ⟨(xws tw_779 rfl), (xws tw_78 rfl), by decide +kernel, by decide +kernel⟩
theorem vkX7_here : vOK yX7_here := ⟨(xws tw_778 rfl), (xws tw_52 rfl)⟩
theorem ykX7_number : yOK yX7_number cX7_number 5 ((some .int)) 2 := ⟨(xws tw_783 rfl), (xws tw_78 rfl), by decide +kernel, by decide +kernel⟩
theorem vkX7_number : vOK yX7_number := ⟨(xws tw_782 rfl), (xws tw_53 rfl)⟩
theorem ykX7_readsItem : yOK yX7_readsItem cX7_readsItem 4 ((some .boolean)) 0 := ⟨(xws tw_775 rfl), (xws tw_78 rfl), by decide +kernel, by decide +kernel⟩
theorem vkX7_readsItem : vOK yX7_readsItem := ⟨(xws tw_774 rfl), (xws tw_51 rfl)⟩
theorem ykX7_reading : yOK yX7_reading cX7_reading 2 ((some .int)) 0 := ⟨(xws tw_771 rfl), (xws tw_78 rfl), by decide +kernel, by decide +kernel⟩
theorem vkX7_reading : vOK yX7_reading := ⟨(xws tw_770 rfl), (xws tw_50 rfl)⟩
theorem ykX7_write : yOK yX7_write cX7_write 2 ((some .int)) 1 := ⟨(xws tw_756 rfl), (xws tw_78 rfl), by decide +kernel, by decide +kernel⟩
theorem vkX7_write : vOK yX7_write := ⟨(xws tw_754 rfl), (xws tw_755 rfl)⟩
theorem ykX7_wipe : yOK yX7_wipe cX7_wipe 2 ((some .int)) 0 := ⟨(xws tw_763 rfl), (xws tw_78 rfl), by decide +kernel, by decide +kernel⟩
theorem vkX7_wipe : vOK yX7_wipe := ⟨(xws tw_761 rfl), (xws tw_762 rfl)⟩
theorem ykX7_fault : yOK yX7_fault cX7_fault 1 ((some .int)) 0 := ⟨(xws tw_767 rfl), (xws tw_78 rfl), by decide +kernel, by decide +kernel⟩
theorem vkX7_fault : vOK yX7_fault := ⟨(xws tw_765 rfl), (xws tw_766 rfl)⟩
theorem ykX7_lay : yOK yX7_lay cX7_lay 1 ((some .int)) 0 := ⟨(xws tw_790 rfl), (xws tw_78 rfl), by decide +kernel, by decide +kernel⟩
theorem vkX7_lay : vOK yX7_lay := ⟨(xws tw_788 rfl), (xws tw_789 rfl)⟩
theorem ykX7_isNote : yOK yX7_isNote cX7_isNote 2 ((some .boolean)) 1 := ⟨(xws tw_798 rfl), (xws tw_78 rfl), by decide +kernel, by decide +kernel⟩
theorem vkX7_isNote : vOK yX7_isNote := ⟨(xws tw_797 rfl), (xws tw_54 rfl)⟩
theorem ykX7_note : yOK yX7_note cX7_note 3 ((some .int)) 2 := ⟨(xws tw_794 rfl), (xws tw_78 rfl), by decide +kernel, by decide +kernel⟩
theorem vkX7_note : vOK yX7_note := ⟨(xws tw_792 rfl), (xws tw_793 rfl)⟩
theorem ykX7_notes : yOK yX7_notes cX7_notes 2 none 0 := ⟨(xws tw_809 rfl), (xws tw_78 rfl), by decide +kernel, by decide +kernel⟩
theorem vkX7_notes : vOK yX7_notes := ⟨(xws tw_808 rfl), (xws tw_55 rfl)⟩
theorem ykX7_isThere : yOK yX7_isThere cX7_isThere 2 ((some .boolean)) 2 := ⟨(xws tw_805 rfl), (xws tw_78 rfl), by decide +kernel, by decide +kernel⟩
theorem zkX7_isThere : Cond.static yX7_isThere ∈ xWS := (xws tw_804 rfl)
theorem ykX7_put : yOK yX7_put cX7_put 3 ((some .int)) 2 := ⟨(xws tw_802 rfl), (xws tw_78 rfl), by decide +kernel, by decide +kernel⟩
theorem vkX7_put : vOK yX7_put := ⟨(xws tw_800 rfl), (xws tw_801 rfl)⟩
theorem ykX7_take : yOK yX7_take cX7_take 2 ((some .int)) 1 := ⟨(xws tw_813 rfl), (xws tw_78 rfl), by decide +kernel, by decide +kernel⟩
theorem vkX7_take : vOK yX7_take := ⟨(xws tw_811 rfl), (xws tw_812 rfl)⟩
theorem ykX7_isShift : yOK yX7_isShift cX7_isShift 3 ((some .boolean)) 2 := ⟨(xws tw_824 rfl), (xws tw_78 rfl), by decide +kernel, by decide +kernel⟩
theorem vkX7_isShift : vOK yX7_isShift := ⟨(xws tw_823 rfl), (xws tw_56 rfl)⟩
theorem ykX7_shift : yOK yX7_shift cX7_shift 6 ((some .int)) 3 := ⟨(xws tw_820 rfl), (xws tw_78 rfl), by decide +kernel, by decide +kernel⟩
theorem vkX7_shift : vOK yX7_shift := ⟨(xws tw_818 rfl), (xws tw_819 rfl)⟩
theorem ykX7_shiftAll : yOK yX7_shiftAll cX7_shiftAll 4 ((some .int)) 2 := ⟨(xws tw_828 rfl), (xws tw_78 rfl), by decide +kernel, by decide +kernel⟩
theorem vkX7_shiftAll : vOK yX7_shiftAll := ⟨(xws tw_826 rfl), (xws tw_827 rfl)⟩
theorem ykX7_mode : yOK yX7_mode cX7_mode 3 ((some .int)) 1 := ⟨(xws tw_832 rfl), (xws tw_78 rfl), by decide +kernel, by decide +kernel⟩
theorem vkX7_mode : vOK yX7_mode := ⟨(xws tw_830 rfl), (xws tw_831 rfl)⟩
theorem ykX7_undo : yOK yX7_undo cX7_undo 1 ((some .int)) 0 := ⟨(xws tw_836 rfl), (xws tw_78 rfl), by decide +kernel, by decide +kernel⟩
theorem vkX7_undo : vOK yX7_undo := ⟨(xws tw_834 rfl), (xws tw_835 rfl)⟩
theorem ykX7_standsAt : yOK yX7_standsAt cX7_standsAt 3 ((some .int)) 2 := ⟨(xws tw_862 rfl), (xws tw_78 rfl), by decide +kernel, by decide +kernel⟩
theorem vkX7_standsAt : vOK yX7_standsAt := ⟨(xws tw_861 rfl), (xws tw_60 rfl)⟩
theorem ykX7_metBy : yOK yX7_metBy cX7_metBy 8 ((some .int)) 4 := ⟨(xws tw_858 rfl), (xws tw_78 rfl), by decide +kernel, by decide +kernel⟩
theorem vkX7_metBy : vOK yX7_metBy := ⟨(xws tw_857 rfl), (xws tw_59 rfl)⟩
theorem ykX7_firstPitch : yOK yX7_firstPitch cX7_firstPitch 1 ((some .int)) 0 := ⟨(xws tw_854 rfl), (xws tw_78 rfl), by decide +kernel, by decide +kernel⟩
theorem vkX7_firstPitch : vOK yX7_firstPitch := ⟨(xws tw_853 rfl), (xws tw_58 rfl)⟩
theorem ykX7_lays : yOK yX7_lays cX7_lays 7 none 2 := ⟨(xws tw_847 rfl), (xws tw_78 rfl), by decide +kernel, by decide +kernel⟩
theorem vkX7_lays : vOK yX7_lays := ⟨(xws tw_846 rfl), (xws tw_57 rfl)⟩
theorem ykX7_looksAt : yOK yX7_looksAt cX7_looksAt 5 none 2 := ⟨(xws tw_885 rfl), (xws tw_78 rfl), by decide +kernel, by decide +kernel⟩
theorem vkX7_looksAt : vOK yX7_looksAt := ⟨(xws tw_884 rfl), (xws tw_63 rfl)⟩
theorem ykX7_gainOf : yOK yX7_gainOf cX7_gainOf 2 ((some .int)) 1 := ⟨(xws tw_889 rfl), (xws tw_78 rfl), by decide +kernel, by decide +kernel⟩
theorem vkX7_gainOf : vOK yX7_gainOf := ⟨(xws tw_888 rfl), (xws tw_64 rfl)⟩
theorem ykX7_isNew : yOK yX7_isNew cX7_isNew 3 ((some .boolean)) 1 := ⟨(xws tw_881 rfl), (xws tw_78 rfl), by decide +kernel, by decide +kernel⟩
theorem vkX7_isNew : vOK yX7_isNew := ⟨(xws tw_880 rfl), (xws tw_62 rfl)⟩
theorem ykX7_findsShapes : yOK yX7_findsShapes cX7_findsShapes 4 none 2 := ⟨(xws tw_874 rfl), (xws tw_78 rfl), by decide +kernel, by decide +kernel⟩
theorem vkX7_findsShapes : vOK yX7_findsShapes := ⟨(xws tw_873 rfl), (xws tw_61 rfl)⟩
theorem ykX7_findsBest : yOK yX7_findsBest cX7_findsBest 5 none 2 := ⟨(xws tw_901 rfl), (xws tw_78 rfl), by decide +kernel, by decide +kernel⟩
theorem vkX7_findsBest : vOK yX7_findsBest := ⟨(xws tw_900 rfl), (xws tw_65 rfl)⟩
theorem ykX7_allOf : yOK yX7_allOf cX7_allOf 1 ((some .int)) 1 := ⟨(xws tw_843 rfl), (xws tw_78 rfl), by decide +kernel, by decide +kernel⟩
theorem zkX7_allOf : Cond.static yX7_allOf ∈ xWS := (xws tw_842 rfl)
theorem ykX7_largest : yOK yX7_largest cX7_largest 3 ((some .int)) 2 := ⟨(xws tw_840 rfl), (xws tw_78 rfl), by decide +kernel, by decide +kernel⟩
theorem vkX7_largest : vOK yX7_largest := ⟨(xws tw_838 rfl), (xws tw_839 rfl)⟩
theorem ykX7_meets : yOK yX7_meets cX7_meets 4 ((some .int)) 3 := ⟨(xws tw_866 rfl), (xws tw_78 rfl), by decide +kernel, by decide +kernel⟩
theorem vkX7_meets : vOK yX7_meets := ⟨(xws tw_864 rfl), (xws tw_865 rfl)⟩
theorem ykX7_shape : yOK yX7_shape cX7_shape 4 ((some .int)) 2 := ⟨(xws tw_870 rfl), (xws tw_78 rfl), by decide +kernel, by decide +kernel⟩
theorem vkX7_shape : vOK yX7_shape := ⟨(xws tw_868 rfl), (xws tw_869 rfl)⟩
theorem ykX7_place : yOK yX7_place cX7_place 5 ((some .int)) 2 := ⟨(xws tw_893 rfl), (xws tw_78 rfl), by decide +kernel, by decide +kernel⟩
theorem vkX7_place : vOK yX7_place := ⟨(xws tw_891 rfl), (xws tw_892 rfl)⟩
theorem ykX7_best : yOK yX7_best cX7_best 2 ((some .int)) 1 := ⟨(xws tw_897 rfl), (xws tw_78 rfl), by decide +kernel, by decide +kernel⟩
theorem vkX7_best : vOK yX7_best := ⟨(xws tw_895 rfl), (xws tw_896 rfl)⟩
theorem ykX7_isParted : yOK yX7_isParted cX7_isParted 2 none 1 := ⟨(xws tw_909 rfl), (xws tw_78 rfl), by decide +kernel, by decide +kernel⟩
theorem vkX7_isParted : vOK yX7_isParted := ⟨(xws tw_908 rfl), (xws tw_66 rfl)⟩
theorem ykX7_parted : yOK yX7_parted cX7_parted 3 ((some .int)) 2 := ⟨(xws tw_905 rfl), (xws tw_78 rfl), by decide +kernel, by decide +kernel⟩
theorem vkX7_parted : vOK yX7_parted := ⟨(xws tw_903 rfl), (xws tw_904 rfl)⟩
theorem ykX7_parting : yOK yX7_parting cX7_parting 2 ((some .int)) 1 := ⟨(xws tw_913 rfl), (xws tw_78 rfl), by decide +kernel, by decide +kernel⟩
theorem vkX7_parting : vOK yX7_parting := ⟨(xws tw_911 rfl), (xws tw_912 rfl)⟩
theorem ykX7_fewest : yOK yX7_fewest cX7_fewest 6 ((some .int)) 1 := ⟨(xws tw_921 rfl), (xws tw_78 rfl), by decide +kernel, by decide +kernel⟩
theorem vkX7_fewest : vOK yX7_fewest := ⟨(xws tw_920 rfl), (xws tw_67 rfl)⟩
theorem ykX7_shapes : yOK yX7_shapes cX7_shapes 4 ((some .int)) 1 := ⟨(xws tw_917 rfl), (xws tw_78 rfl), by decide +kernel, by decide +kernel⟩
theorem vkX7_shapes : vOK yX7_shapes := ⟨(xws tw_915 rfl), (xws tw_916 rfl)⟩
theorem ykX7_link : yOK yX7_link cX7_link 6 ((some .int)) 3 := ⟨(xws tw_925 rfl), (xws tw_78 rfl), by decide +kernel, by decide +kernel⟩
theorem vkX7_link : vOK yX7_link := ⟨(xws tw_923 rfl), (xws tw_924 rfl)⟩
theorem ykX7_better : yOK yX7_better cX7_better 8 ((some .int)) 1 := ⟨(xws tw_929 rfl), (xws tw_78 rfl), by decide +kernel, by decide +kernel⟩
theorem vkX7_better : vOK yX7_better := ⟨(xws tw_927 rfl), (xws tw_928 rfl)⟩
theorem ykX7_happens : yOK yX7_happens cX7_happens 5 none 1 := ⟨(xws tw_940 rfl), (xws tw_78 rfl), by decide +kernel, by decide +kernel⟩
theorem vkX7_happens : vOK yX7_happens := ⟨(xws tw_939 rfl), (xws tw_68 rfl)⟩
theorem ykX7_day : yOK yX7_day cX7_day 7 ((some .int)) 3 := ⟨(xws tw_933 rfl), (xws tw_78 rfl), by decide +kernel, by decide +kernel⟩
theorem vkX7_day : vOK yX7_day := ⟨(xws tw_931 rfl), (xws tw_932 rfl)⟩
theorem ykX7_keep : yOK yX7_keep cX7_keep 1 ((some .int)) 0 := ⟨(xws tw_944 rfl), (xws tw_78 rfl), by decide +kernel, by decide +kernel⟩
theorem vkX7_keep : vOK yX7_keep := ⟨(xws tw_942 rfl), (xws tw_943 rfl)⟩
theorem ykX7_back : yOK yX7_back cX7_back 1 ((some .int)) 0 := ⟨(xws tw_948 rfl), (xws tw_78 rfl), by decide +kernel, by decide +kernel⟩
theorem vkX7_back : vOK yX7_back := ⟨(xws tw_946 rfl), (xws tw_947 rfl)⟩
theorem ykX7_count : yOK yX7_count cX7_count 2 ((some .int)) 1 := ⟨(xws tw_952 rfl), (xws tw_78 rfl), by decide +kernel, by decide +kernel⟩
theorem vkX7_count : vOK yX7_count := ⟨(xws tw_950 rfl), (xws tw_951 rfl)⟩
theorem ykJ6_bitCount_0f7a4 : yOK yJ6_bitCount_0f7a4 cJ6_bitCount_0f7a4 1 ((some .int)) 1 := ⟨(xws tw_545 rfl), (xws tw_81 rfl), by decide +kernel, by decide +kernel⟩
theorem zkJ6_bitCount_0f7a4 : Cond.static yJ6_bitCount_0f7a4 ∈ xWS := (xws tw_544 rfl)
theorem ykJ9_floorMod_7cf53 : yOK yJ9_floorMod_7cf53 cJ9_floorMod_7cf53 3 ((some .int)) 2 := ⟨(xws tw_482 rfl), (xws tw_74 rfl), by decide +kernel, by decide +kernel⟩
theorem zkJ9_floorMod_7cf53 : Cond.static yJ9_floorMod_7cf53 ∈ xWS := (xws tw_481 rfl)
theorem ykJ9_max_7cf53 : yOK yJ9_max_7cf53 cJ9_max_7cf53 2 ((some .int)) 2 := ⟨(xws tw_138 rfl), (xws tw_74 rfl), by decide +kernel, by decide +kernel⟩
theorem zkJ9_max_7cf53 : Cond.static yJ9_max_7cf53 ∈ xWS := (xws tw_137 rfl)
theorem ykJ7_fill_53178 : yOK yJ7_fill_53178 cJ7_fill_53178 4 none 2 := ⟨(xws tw_465 rfl), (xws tw_80 rfl), by decide +kernel, by decide +kernel⟩
theorem zkJ7_fill_53178 : Cond.static yJ7_fill_53178 ∈ xWS := (xws tw_464 rfl)
theorem lk_L_9 : lkOK RL 9 yX6_init := Or.inl (xws tw_84 rfl)
theorem lk_X6_3 : lkOK RX6 3 objectInit := Or.inl (xws tw_87 rfl)
theorem lk_X6_11 : lkOK RX6 11 yX4_init := Or.inr ⟨_, List.mem_of_getElem? tw_92⟩
theorem lk_X4_3 : lkOK RX4 3 objectInit := Or.inl (xws tw_95 rfl)
theorem lk_X6_18 : lkOK RX6 18 yX2_init := Or.inr ⟨_, List.mem_of_getElem? tw_110⟩
theorem lk_X2_3 : lkOK RX2 3 objectInit := Or.inl (xws tw_113 rfl)
theorem lk_X6_28 : lkOK RX6 28 yX3_init := Or.inr ⟨_, List.mem_of_getElem? tw_132⟩
theorem lk_X3_1 : lkOK RX3 1 objectInit := Or.inl (xws tw_135 rfl)
theorem lk_X3_7 : lkOK RX3 7 Lib.Math.max.name := Or.inl (xws tw_136 rfl)
theorem lk_X3_21 : lkOK RX3 21 yX2_init := Or.inr ⟨_, List.mem_of_getElem? tw_141⟩
theorem lk_X6_40 : lkOK RX6 40 yX5_init := Or.inr ⟨_, List.mem_of_getElem? tw_152⟩
theorem lk_X5_3 : lkOK RX5 3 objectInit := Or.inl (xws tw_155 rfl)
theorem lk_X6_50 : lkOK RX6 50 yX1_init := Or.inr ⟨_, List.mem_of_getElem? tw_205⟩
theorem lk_X1_3 : lkOK RX1 3 objectInit := Or.inl (xws tw_208 rfl)
theorem lk_X6_57 : lkOK RX6 57 yX0_init := Or.inr ⟨_, List.mem_of_getElem? tw_236⟩
theorem lk_X0_3 : lkOK RX0 3 objectInit := Or.inl (xws tw_239 rfl)
theorem lk_X6_69 : lkOK RX6 69 yX6_codeOf := Or.inl (xws tw_251 rfl)
theorem lk_X6_73 : lkOK RX6 73 yX2_insert := Or.inr ⟨_, List.mem_of_getElem? tw_254⟩
theorem lk_L_13 : lkOK RL 13 yX6_write := Or.inl (xws tw_298 rfl)
theorem lk_X6_77 : lkOK RX6 77 yX4_append := Or.inr ⟨_, List.mem_of_getElem? tw_302⟩
theorem lk_L_18 : lkOK RL 18 yX6_wipe := Or.inl (xws tw_306 rfl)
theorem lk_L_23 : lkOK RL 23 yX6_fault := Or.inl (xws tw_310 rfl)
theorem lk_X6_85 : lkOK RX6 85 yX4_readInto := Or.inr ⟨_, List.mem_of_getElem? tw_314⟩
theorem lk_X4_30 : lkOK RX4 30 yX4_readItem := Or.inl (xws tw_318 rfl)
theorem lk_X4_34 : lkOK RX4 34 yX4_skip := Or.inl (xws tw_322 rfl)
theorem lk_X4_38 : lkOK RX4 38 yX4_readNote := Or.inl (xws tw_326 rfl)
theorem lk_X4_44 : lkOK RX4 44 yX4_readNumber := Or.inl (xws tw_330 rfl)
theorem lk_X4_63 : lkOK RX4 63 yX4_isFigure := Or.inl (xws tw_334 rfl)
theorem lk_X4_67 : lkOK RX4 67 Lib.Math.max.name := Or.inl (xws tw_338 rfl)
theorem lk_X4_48 : lkOK RX4 48 yX6_isWithin := Or.inr ⟨_, List.mem_of_getElem? tw_339⟩
theorem lk_X4_52 : lkOK RX4 52 yX6_codeOf := Or.inr ⟨_, List.mem_of_getElem? tw_342⟩
theorem lk_X4_56 : lkOK RX4 56 yX2_numberOf := Or.inr ⟨_, List.mem_of_getElem? tw_343⟩
theorem lk_X4_60 : lkOK RX4 60 yX2_insert := Or.inr ⟨_, List.mem_of_getElem? tw_347⟩
theorem lk_X4_41 : lkOK RX4 41 yX4_readManner := Or.inl (xws tw_348 rfl)
theorem lk_L_27 : lkOK RL 27 yX6_lay := Or.inl (xws tw_352 rfl)
theorem lk_X6_92 : lkOK RX6 92 yX2_copyFrom := Or.inr ⟨_, List.mem_of_getElem? tw_356⟩
theorem lk_X2_19 : lkOK RX2 19 arraycopyName := Or.inl (xws tw_360 rfl)
theorem lk_X6_97 : lkOK RX6 97 yX6_forgetFindings := Or.inl (xws tw_363 rfl)
theorem lk_L_31 : lkOK RL 31 yX6_note := Or.inl (xws tw_367 rfl)
theorem lk_X6_100 : lkOK RX6 100 yX6_isNote := Or.inl (xws tw_371 rfl)
theorem lk_X6_103 : lkOK RX6 103 yX2_timeOf := Or.inr ⟨_, List.mem_of_getElem? tw_375⟩
theorem lk_X6_106 : lkOK RX6 106 yX2_pitchOf := Or.inr ⟨_, List.mem_of_getElem? tw_379⟩
theorem lk_L_36 : lkOK RL 36 yX6_put := Or.inl (xws tw_383 rfl)
theorem lk_X6_109 : lkOK RX6 109 yX6_isWithin := Or.inl (xws tw_387 rfl)
theorem lk_X6_113 : lkOK RX6 113 yX2_numberOf := Or.inr ⟨_, List.mem_of_getElem? tw_388⟩
theorem lk_X6_116 : lkOK RX6 116 yX6_beginAct := Or.inl (xws tw_389 rfl)
theorem lk_X6_238 : lkOK RX6 238 yX3_push := Or.inr ⟨_, List.mem_of_getElem? tw_393⟩
theorem lk_X3_26 : lkOK RX3 26 yX3_dropOldest := Or.inl (xws tw_397 rfl)
theorem lk_X3_29 : lkOK RX3 29 yX2_copyFrom := Or.inr ⟨_, List.mem_of_getElem? tw_401⟩
theorem lk_L_40 : lkOK RL 40 yX6_take := Or.inl (xws tw_402 rfl)
theorem lk_X6_119 : lkOK RX6 119 yX2_remove := Or.inr ⟨_, List.mem_of_getElem? tw_406⟩
theorem lk_L_44 : lkOK RL 44 yX6_shift := Or.inl (xws tw_410 rfl)
theorem lk_X6_122 : lkOK RX6 122 yX6_isMove := Or.inl (xws tw_414 rfl)
theorem lk_X6_138 : lkOK RX6 138 yX6_isShift := Or.inl (xws tw_418 rfl)
theorem lk_X6_125 : lkOK RX6 125 yX6_staysWithin := Or.inl (xws tw_422 rfl)
theorem lk_L_49 : lkOK RL 49 yX6_shiftAll := Or.inl (xws tw_426 rfl)
theorem lk_X6_129 : lkOK RX6 129 yX2_moveAll := Or.inr ⟨_, List.mem_of_getElem? tw_430⟩
theorem lk_L_53 : lkOK RL 53 yX6_mode := Or.inl (xws tw_434 rfl)
theorem lk_L_57 : lkOK RL 57 yX6_undo := Or.inl (xws tw_438 rfl)
theorem lk_X6_135 : lkOK RX6 135 yX3_popInto := Or.inr ⟨_, List.mem_of_getElem? tw_442⟩
theorem lk_L_61 : lkOK RL 61 yX6_largest := Or.inl (xws tw_446 rfl)
theorem lk_X6_141 : lkOK RX6 141 yX6_wholeSearch := Or.inl (xws tw_450 rfl)
theorem lk_X6_167 : lkOK RX6 167 yX2_allNotes := Or.inr ⟨_, List.mem_of_getElem? tw_454⟩
theorem lk_X6_234 : lkOK RX6 234 yX5_lookOver := Or.inr ⟨_, List.mem_of_getElem? tw_458⟩
theorem lk_X5_43 : lkOK RX5 43 yX2_allNotes := Or.inr ⟨_, List.mem_of_getElem? tw_462⟩
theorem lk_X5_50 : lkOK RX5 50 yJ7_fill_53178 := Or.inl (xws tw_463 rfl)
theorem lk_X5_59 : lkOK RX5 59 yX2_timeOf := Or.inr ⟨_, List.mem_of_getElem? tw_466⟩
theorem lk_X5_63 : lkOK RX5 63 yX2_pitchOf := Or.inr ⟨_, List.mem_of_getElem? tw_467⟩
theorem lk_X5_66 : lkOK RX5 66 yX5_has := Or.inl (xws tw_468 rfl)
theorem lk_X5_70 : lkOK RX5 70 yX6_codeOf := Or.inr ⟨_, List.mem_of_getElem? tw_471⟩
theorem lk_X5_74 : lkOK RX5 74 yX5_findLargests := Or.inl (xws tw_472 rfl)
theorem lk_X5_83 : lkOK RX5 83 yX5_enterPair := Or.inl (xws tw_476 rfl)
theorem lk_X5_87 : lkOK RX5 87 yJ9_floorMod_7cf53 := Or.inl (xws tw_480 rfl)
theorem lk_X5_92 : lkOK RX5 92 yX5_enter := Or.inl (xws tw_483 rfl)
theorem lk_X5_96 : lkOK RX5 96 yX5_isHeld := Or.inl (xws tw_487 rfl)
theorem lk_X5_99 : lkOK RX5 99 yX5_shiftOf := Or.inl (xws tw_490 rfl)
theorem lk_X5_77 : lkOK RX5 77 yX5_findWideShifts := Or.inl (xws tw_493 rfl)
theorem lk_X5_105 : lkOK RX5 105 yX5_hasTwo := Or.inl (xws tw_497 rfl)
theorem lk_X5_80 : lkOK RX5 80 yX5_findShapes := Or.inl (xws tw_500 rfl)
theorem lk_X5_112 : lkOK RX5 112 yX5_isShape := Or.inl (xws tw_504 rfl)
theorem lk_X5_115 : lkOK RX5 115 yX5_measureShape := Or.inl (xws tw_508 rfl)
theorem lk_X5_119 : lkOK RX5 119 yX5_timePart := Or.inl (xws tw_512 rfl)
theorem lk_X5_122 : lkOK RX5 122 yX5_pitchPart := Or.inl (xws tw_515 rfl)
theorem lk_X5_125 : lkOK RX5 125 yX5_met := Or.inl (xws tw_518 rfl)
theorem lk_X5_129 : lkOK RX5 129 yX5_numberAt := Or.inl (xws tw_522 rfl)
theorem lk_X6_145 : lkOK RX6 145 yX5_largestOf := Or.inr ⟨_, List.mem_of_getElem? tw_526⟩
theorem lk_L_65 : lkOK RL 65 yX6_meets := Or.inl (xws tw_530 rfl)
theorem lk_X6_148 : lkOK RX6 148 yX5_met := Or.inr ⟨_, List.mem_of_getElem? tw_534⟩
theorem lk_L_69 : lkOK RL 69 yX6_shape := Or.inl (xws tw_535 rfl)
theorem lk_X6_164 : lkOK RX6 164 yX5_gainOf := Or.inr ⟨_, List.mem_of_getElem? tw_539⟩
theorem lk_X5_132 : lkOK RX5 132 yJ6_bitCount_0f7a4 := Or.inl (xws tw_543 rfl)
theorem lk_L_73 : lkOK RL 73 yX6_place := Or.inl (xws tw_549 rfl)
theorem lk_X6_171 : lkOK RX6 171 yX5_placesOf := Or.inr ⟨_, List.mem_of_getElem? tw_553⟩
theorem lk_X6_174 : lkOK RX6 174 yX5_placeOf := Or.inr ⟨_, List.mem_of_getElem? tw_557⟩
theorem lk_L_77 : lkOK RL 77 yX6_best := Or.inl (xws tw_561 rfl)
theorem lk_X6_177 : lkOK RX6 177 yX5_bestShape := Or.inr ⟨_, List.mem_of_getElem? tw_565⟩
theorem lk_X5_137 : lkOK RX5 137 yX5_isBetter := Or.inl (xws tw_569 rfl)
theorem lk_X5_140 : lkOK RX5 140 yX5_gainOf := Or.inl (xws tw_573 rfl)
theorem lk_L_81 : lkOK RL 81 yX6_parted := Or.inl (xws tw_574 rfl)
theorem lk_X6_180 : lkOK RX6 180 yX1_takeApart := Or.inr ⟨_, List.mem_of_getElem? tw_578⟩
theorem lk_X1_28 : lkOK RX1 28 yX2_allNotes := Or.inr ⟨_, List.mem_of_getElem? tw_582⟩
theorem lk_X1_37 : lkOK RX1 37 yX5_lookOver := Or.inr ⟨_, List.mem_of_getElem? tw_583⟩
theorem lk_X1_43 : lkOK RX1 43 yX5_bestShape := Or.inr ⟨_, List.mem_of_getElem? tw_584⟩
theorem lk_X1_46 : lkOK RX1 46 yX5_gainOf := Or.inr ⟨_, List.mem_of_getElem? tw_585⟩
theorem lk_X1_50 : lkOK RX1 50 yX1_setAside := Or.inl (xws tw_586 rfl)
theorem lk_X1_54 : lkOK RX1 54 yJ6_bitCount_0f7a4 := Or.inl (xws tw_590 rfl)
theorem lk_L_85 : lkOK RL 85 yX6_parting := Or.inl (xws tw_591 rfl)
theorem lk_L_89 : lkOK RL 89 yX6_shapes := Or.inl (xws tw_595 rfl)
theorem lk_X6_200 : lkOK RX6 200 yX0_fewestOf := Or.inr ⟨_, List.mem_of_getElem? tw_599⟩
theorem lk_X0_15 : lkOK RX0 15 yX0_gather := Or.inl (xws tw_603 rfl)
theorem lk_X0_36 : lkOK RX0 36 yX0_isWithinAnother := Or.inl (xws tw_607 rfl)
theorem lk_X0_19 : lkOK RX0 19 yX5_covered := Or.inr ⟨_, List.mem_of_getElem? tw_610⟩
theorem lk_X0_29 : lkOK RX0 29 yX0_isReached := Or.inl (xws tw_614 rfl)
theorem lk_X6_204 : lkOK RX6 204 yX5_covered := Or.inr ⟨_, List.mem_of_getElem? tw_617⟩
theorem lk_L_93 : lkOK RL 93 yX6_link := Or.inl (xws tw_618 rfl)
theorem lk_X6_207 : lkOK RX6 207 yJ9_floorMod_7cf53 := Or.inl (xws tw_622 rfl)
theorem lk_X6_212 : lkOK RX6 212 yJ6_bitCount_0f7a4 := Or.inl (xws tw_623 rfl)
theorem lk_L_97 : lkOK RL 97 yX6_better := Or.inl (xws tw_624 rfl)
theorem lk_X6_221 : lkOK RX6 221 yX6_findBetter := Or.inl (xws tw_628 rfl)
theorem lk_L_101 : lkOK RL 101 yX6_day := Or.inl (xws tw_632 rfl)
theorem lk_X6_230 : lkOK RX6 230 yX6_drawOnce := Or.inl (xws tw_636 rfl)
theorem lk_L_105 : lkOK RL 105 yX6_keep := Or.inl (xws tw_643 rfl)
theorem lk_L_109 : lkOK RL 109 yX6_back := Or.inl (xws tw_647 rfl)
theorem lk_L_113 : lkOK RL 113 yX6_count := Or.inl (xws tw_651 rfl)
theorem lk_L_12 : lkOK RL 12 yX7_init := Or.inl (xws tw_657 rfl)
theorem lk_X7_1 : lkOK RX7 1 objectInit := Or.inl (xws tw_660 rfl)
theorem lk_X7_46 : lkOK RX7 46 yX7_begins := Or.inl (xws tw_661 rfl)
theorem lk_X7_53 : lkOK RX7 53 yX7_puts := Or.inl (xws tw_665 rfl)
theorem lk_X7_49 : lkOK RX7 49 yX7_copies := Or.inl (xws tw_668 rfl)
theorem lk_L_17 : lkOK RL 17 yX7_write := Or.inl (xws tw_753 rfl)
theorem lk_X7_68 : lkOK RX7 68 yX7_in := Or.inl (xws tw_757 rfl)
theorem lk_L_22 : lkOK RL 22 yX7_wipe := Or.inl (xws tw_760 rfl)
theorem lk_L_26 : lkOK RL 26 yX7_fault := Or.inl (xws tw_764 rfl)
theorem lk_X7_83 : lkOK RX7 83 yX7_reading := Or.inl (xws tw_768 rfl)
theorem lk_X7_79 : lkOK RX7 79 yX7_readsItem := Or.inl (xws tw_772 rfl)
theorem lk_X7_64 : lkOK RX7 64 yX7_here := Or.inl (xws tw_776 rfl)
theorem lk_X7_72 : lkOK RX7 72 yX7_number := Or.inl (xws tw_780 rfl)
theorem lk_X7_76 : lkOK RX7 76 yX7_numberOf := Or.inl (xws tw_784 rfl)
theorem lk_L_30 : lkOK RL 30 yX7_lay := Or.inl (xws tw_787 rfl)
theorem lk_L_35 : lkOK RL 35 yX7_note := Or.inl (xws tw_791 rfl)
theorem lk_X7_92 : lkOK RX7 92 yX7_isNote := Or.inl (xws tw_795 rfl)
theorem lk_L_39 : lkOK RL 39 yX7_put := Or.inl (xws tw_799 rfl)
theorem lk_X7_96 : lkOK RX7 96 yX7_isThere := Or.inl (xws tw_803 rfl)
theorem lk_X7_100 : lkOK RX7 100 yX7_notes := Or.inl (xws tw_806 rfl)
theorem lk_L_43 : lkOK RL 43 yX7_take := Or.inl (xws tw_810 rfl)
theorem lk_X7_103 : lkOK RX7 103 yX7_leaves := Or.inl (xws tw_814 rfl)
theorem lk_L_48 : lkOK RL 48 yX7_shift := Or.inl (xws tw_817 rfl)
theorem lk_X7_107 : lkOK RX7 107 yX7_isShift := Or.inl (xws tw_821 rfl)
theorem lk_L_52 : lkOK RL 52 yX7_shiftAll := Or.inl (xws tw_825 rfl)
theorem lk_L_56 : lkOK RL 56 yX7_mode := Or.inl (xws tw_829 rfl)
theorem lk_L_60 : lkOK RL 60 yX7_undo := Or.inl (xws tw_833 rfl)
theorem lk_L_64 : lkOK RL 64 yX7_largest := Or.inl (xws tw_837 rfl)
theorem lk_X7_166 : lkOK RX7 166 yX7_allOf := Or.inl (xws tw_841 rfl)
theorem lk_X7_139 : lkOK RX7 139 yX7_lays := Or.inl (xws tw_844 rfl)
theorem lk_X7_116 : lkOK RX7 116 yX7_has := Or.inl (xws tw_848 rfl)
theorem lk_X7_119 : lkOK RX7 119 yX7_firstPitch := Or.inl (xws tw_851 rfl)
theorem lk_X7_122 : lkOK RX7 122 yX7_metBy := Or.inl (xws tw_855 rfl)
theorem lk_X7_113 : lkOK RX7 113 yX7_standsAt := Or.inl (xws tw_859 rfl)
theorem lk_L_68 : lkOK RL 68 yX7_meets := Or.inl (xws tw_863 rfl)
theorem lk_L_72 : lkOK RL 72 yX7_shape := Or.inl (xws tw_867 rfl)
theorem lk_X7_145 : lkOK RX7 145 yX7_findsShapes := Or.inl (xws tw_871 rfl)
theorem lk_X7_132 : lkOK RX7 132 yX7_bits := Or.inl (xws tw_875 rfl)
theorem lk_X7_142 : lkOK RX7 142 yX7_isNew := Or.inl (xws tw_878 rfl)
theorem lk_X7_157 : lkOK RX7 157 yX7_looksAt := Or.inl (xws tw_882 rfl)
theorem lk_X7_160 : lkOK RX7 160 yX7_gainOf := Or.inl (xws tw_886 rfl)
theorem lk_L_76 : lkOK RL 76 yX7_place := Or.inl (xws tw_890 rfl)
theorem lk_L_80 : lkOK RL 80 yX7_best := Or.inl (xws tw_894 rfl)
theorem lk_X7_170 : lkOK RX7 170 yX7_findsBest := Or.inl (xws tw_898 rfl)
theorem lk_L_84 : lkOK RL 84 yX7_parted := Or.inl (xws tw_902 rfl)
theorem lk_X7_182 : lkOK RX7 182 yX7_isParted := Or.inl (xws tw_906 rfl)
theorem lk_L_88 : lkOK RL 88 yX7_parting := Or.inl (xws tw_910 rfl)
theorem lk_L_92 : lkOK RL 92 yX7_shapes := Or.inl (xws tw_914 rfl)
theorem lk_X7_186 : lkOK RX7 186 yX7_fewest := Or.inl (xws tw_918 rfl)
theorem lk_L_96 : lkOK RL 96 yX7_link := Or.inl (xws tw_922 rfl)
theorem lk_L_100 : lkOK RL 100 yX7_better := Or.inl (xws tw_926 rfl)
theorem lk_L_104 : lkOK RL 104 yX7_day := Or.inl (xws tw_930 rfl)
theorem lk_X7_195 : lkOK RX7 195 yX7_happens := Or.inl (xws tw_937 rfl)
theorem lk_L_108 : lkOK RL 108 yX7_keep := Or.inl (xws tw_941 rfl)
theorem lk_L_112 : lkOK RL 112 yX7_back := Or.inl (xws tw_945 rfl)
theorem lk_L_116 : lkOK RL 116 yX7_count := Or.inl (xws tw_949 rfl)
theorem ini_L : Cond.initialized RL ∈ xWS := xws tw_69 rfl
theorem ini_X6 : Cond.initialized RX6 ∈ xWS := xws tw_70 rfl
theorem ini_X4 : Cond.initialized RX4 ∈ xWS := xws tw_71 rfl
theorem ini_X2 : Cond.initialized RX2 ∈ xWS := xws tw_72 rfl
theorem ini_X3 : Cond.initialized RX3 ∈ xWS := xws tw_73 rfl
theorem ini_J9 : Cond.initialized RJ9 ∈ xWS := xws tw_74 rfl
theorem ini_X5 : Cond.initialized RX5 ∈ xWS := xws tw_75 rfl
theorem ini_X1 : Cond.initialized RX1 ∈ xWS := xws tw_76 rfl
theorem ini_X0 : Cond.initialized RX0 ∈ xWS := xws tw_77 rfl
theorem ini_X7 : Cond.initialized RX7 ∈ xWS := xws tw_78 rfl
theorem ini_J10 : Cond.initialized RJ10 ∈ xWS := xws tw_79 rfl
theorem ini_J7 : Cond.initialized RJ7 ∈ xWS := xws tw_80 rfl
theorem ini_J6 : Cond.initialized RJ6 ∈ xWS := xws tw_81 rfl
theorem ck_L_7 : Cond.classLink RL 7 RX6 ∈ xWS := xws tw_82 rfl
theorem nw_X6 : Cond.instantiable RX6 13 ∈ xWS := xws tw_83 rfl
theorem ck_X6_9 : Cond.classLink RX6 9 RX4 ∈ xWS := xws tw_90 rfl
theorem nw_X4 : Cond.instantiable RX4 3 ∈ xWS := xws tw_91 rfl
theorem ck_X6_16 : Cond.classLink RX6 16 RX2 ∈ xWS := xws tw_108 rfl
theorem nw_X2 : Cond.instantiable RX2 3 ∈ xWS := xws tw_109 rfl
theorem ck_X6_26 : Cond.classLink RX6 26 RX3 ∈ xWS := xws tw_130 rfl
theorem nw_X3 : Cond.instantiable RX3 2 ∈ xWS := xws tw_131 rfl
theorem ck_X3_13 : Cond.classLink RX3 13 RX2 ∈ xWS := xws tw_139 rfl
theorem ck_X6_38 : Cond.classLink RX6 38 RX5 ∈ xWS := xws tw_150 rfl
theorem nw_X5 : Cond.instantiable RX5 12 ∈ xWS := xws tw_151 rfl
theorem ck_X6_48 : Cond.classLink RX6 48 RX1 ∈ xWS := xws tw_203 rfl
theorem nw_X1 : Cond.instantiable RX1 6 ∈ xWS := xws tw_204 rfl
theorem ck_X6_55 : Cond.classLink RX6 55 RX0 ∈ xWS := xws tw_234 rfl
theorem nw_X0 : Cond.instantiable RX0 2 ∈ xWS := xws tw_235 rfl
theorem cst_J6_265 : Cond.constant RJ6 265 (1431655765) ∈ xWS := xws tw_546 rfl
theorem cst_J6_266 : Cond.constant RJ6 266 (858993459) ∈ xWS := xws tw_547 rfl
theorem cst_J6_267 : Cond.constant RJ6 267 (252645135) ∈ xWS := xws tw_548 rfl
theorem cst_X6_244 : Cond.constantLong RX6 244 (7919) ∈ xWS := xws tw_640 rfl
theorem cst_X6_246 : Cond.constantLong RX6 246 (6151) ∈ xWS := xws tw_641 rfl
theorem cst_X6_248 : Cond.constantLong RX6 248 (65521) ∈ xWS := xws tw_642 rfl
theorem ck_L_10 : Cond.classLink RL 10 RX7 ∈ xWS := xws tw_655 rfl
theorem nw_X7 : Cond.instantiable RX7 27 ∈ xWS := xws tw_656 rfl
theorem cst_X7_189 : Cond.constantLong RX7 189 (7919) ∈ xWS := xws tw_934 rfl
theorem cst_X7_191 : Cond.constantLong RX7 191 (6151) ∈ xWS := xws tw_935 rfl
theorem cst_X7_193 : Cond.constantLong RX7 193 (65521) ∈ xWS := xws tw_936 rfl
theorem w_arrI : (Cond.arrayClass .int) ∈ xWS := (xws tw_107 rfl)
theorem w_oin : (Cond.instanceMethod objectInit) ∈ xWS := (xws tw_88 rfl)
theorem w_oco : (Cond.code objectInit ⟨#[0xb1]⟩ 1 none) ∈ xWS := (xws tw_89 rfl)
theorem w_mst : (Cond.static Lib.Math.max.name) ∈ xWS := (xws tw_137 rfl)
theorem w_min : (Cond.initialized "java/lang/Math") ∈ xWS := (xws tw_74 rfl)
theorem w_mco : (Cond.code Lib.Math.max.name Lib.Math.max.code 2 (some .int)) ∈ xWS := (xws tw_138 rfl)
theorem w_cna : (Cond.native arraycopyName) ∈ xWS := (xws tw_362 rfl)
theorem w_cst : (Cond.static arraycopyName) ∈ xWS := (xws tw_361 rfl)
theorem w_cin : (Cond.initialized "java/lang/System") ∈ xWS := (xws tw_79 rfl)
theorem w_over : (Cond.arrayOver (.object "ShiftedShapes$Piece")) ∈ lw_tbl := List.mem_of_getElem? tw_140
end
section
/-! ===== the judgement: from here, with this world, the method comes to a return with Post ===== -/
abbrev xC : Type := ByteArray × String × Nat × Nat × Nat × Nat × Bool × MethodName × Nat × Option FieldType
abbrev xP : Type := Option xV → xW → Prop
def isNest (w : Cond) : Bool := match w with
  | .fieldLinkNest _ _ _ _ _ _ => true
  | .methodLinkNest _ _ _ _ => true
  | _ => false
theorem nest_warm {w : Cond} (hw : isNest w = true) {s U : State} (hW : s.WarmedH U.vm) (h : va_Nw w s) : va_Nw w U := by
  cases w <;> first | exact va_Nw.warmF hW h | exact va_Nw.warmM hW h | cases hw
def retI (cc : ByteArray) (pc : Nat) (v : Option xV) : Prop := match v with
  | none => decode cc pc = .ok (.return_, 1)
  | some (.inl _) => decode cc pc = .ok (.ireturn, 1)
  | some (.inr _) => decode cc pc = .ok (.areturn, 1)
abbrev xS (B : Nat) (s : State) (H : Heap) (locs : List Loc) : Prop := va_S (fun q => B ≤ q) s.heap H locs
def Cx (X : xC) (Post : xP) (p : Program) (l : Launch) (e : Env) (R : Room) (s : State) (m : MethodId) (args : Array Value) (below : List Frame) (meth : Method) (c : Code) (Q : State → Prop) (B : Nat) (D : va_G) : Prop :=
  p.tables.exec = Jvm.exec ∧ c.code = X.1 ∧ s.vm.findClass X.2.1 = some m.cls ∧ (∀ w ∈ xWS, w.before args s = true) ∧ va_K D vwCl [] s ∧ (∀ w ∈ lw_tbl, isNest w = true → va_Nw w s) ∧ va_AO RX2 s ∧ (X.2.2.1 ≤ R.frames ∧ X.2.2.2.1 ≤ R.locals ∧ X.2.2.2.2.1 ≤ R.cells ∧ X.2.2.2.2.2.1 ≤ R.slots) ∧ (X.2.2.2.2.2.2.1 = true → meth.name = "<init>") ∧ B ≤ s.heap.size ∧
  ∀ (v : Option xV) (n : Nat) (w : xW) (j : Nat) (H : Heap) (locs : List Loc) (pc : Nat) (ls : Array Slot), Post v w → Rel B D s n w H → s.heap.size + X.2.2.2.2.1 = B + n → xS B s H locs → (∀ x, v = some x → inV x) → j ≤ X.2.2.2.2.2.1 → retI X.1 pc v → W p l e R s m args below meth c H locs X.2.2.2.2.1 j Q (F0 m pc ls (v.toList.map (rv B)))
def Ex (X : xC) (Post : xP) (k j n : Nat) (w : xW) (pc : Nat) (L : List (Option xV)) (st : List xV) : Prop :=
  ∀ (p : Program) (l : Launch) (e : Env) (R : Room) (s : State) (m : MethodId) (args : Array Value) (below : List Frame) (meth : Method) (c : Code) (H : Heap) (locs : List Loc) (Q : State → Prop) (B : Nat) (D : va_G) (ls : Array Slot), Cx X Post p l e R s m args below meth c Q B D → Rel B D s n w H → s.heap.size + k = B + n → xS B s H locs → hasL B c ls L → (∀ x ∈ st, inV x) →
    W p l e R s m args below meth c H locs k j Q (F0 m pc ls (st.map (rv B)))
theorem hst1 {v : xV} {st : List xV} (h : ∀ x ∈ v :: st, inV x) : inV v := h v List.mem_cons_self
theorem hst2 {v : xV} {st : List xV} (h : ∀ x ∈ v :: st, inV x) : ∀ x ∈ st, inV x := fun x hx => h x (List.mem_cons_of_mem _ hx)
theorem hstc {v : xV} {st : List xV} (h1 : inV v) (h : ∀ x ∈ st, inV x) : ∀ x ∈ v :: st, inV x := List.forall_mem_cons.mpr ⟨h1, h⟩
theorem i8_32 {n : Int} (h : -128 ≤ n ∧ n ≤ 127) : (Int8.ofInt n).toInt32 = Int32.ofInt n := by
  apply Int32.toInt_inj.mp
  rw [Int8.toInt_toInt32, i32_to (by unfold inI; omega), Int8.toInt_ofInt]
  apply Int.bmod_eq_of_le <;> simp [Int8.size] <;> omega
theorem i16_32 {n : Int} (h : -32768 ≤ n ∧ n ≤ 32767) : (Int16.ofInt n).toInt32 = Int32.ofInt n := by
  apply Int32.toInt_inj.mp
  rw [Int16.toInt_toInt32, i32_to (by unfold inI; omega), Int16.toInt_ofInt]
  apply Int.bmod_eq_of_le <;> simp [Int16.size] <;> omega
theorem i64_to {a : Int} (h : inJ a) : (Int64.ofInt a).toInt = a := by
  rw [Int64.toInt_ofInt]
  obtain ⟨h1, h2⟩ := h
  apply Int.bmod_eq_of_le <;> simp [Int64.size] <;> omega
def xand (a b : Int) : Int := (Int32.ofInt a &&& Int32.ofInt b).toInt
def xor (a b : Int) : Int := (Int32.ofInt a ||| Int32.ofInt b).toInt
def xxor (a b : Int) : Int := (Int32.ofInt a ^^^ Int32.ofInt b).toInt
def xshl (a b : Int) : Int := (Int32.ofInt a <<< (Int32.ofInt b &&& 31)).toInt
def xshr (a b : Int) : Int := (Int32.ofInt a >>> (Int32.ofInt b &&& 31)).toInt
def xushr (a b : Int) : Int := ((Int32.ofInt a).toUInt32 >>> ((Int32.ofInt b).toUInt32 &&& Int32.toUInt32 31)).toInt32.toInt
theorem i32_div {a b : Int} (ha : inI a) (hb : inI b) (h0 : 0 ≤ a) (h1 : 0 < b) : Int32.ofInt a / Int32.ofInt b = Int32.ofInt (a / b) := by
  apply Int32.toInt_inj.mp
  have h3 : a / b ≤ a := Int.ediv_le_self b h0
  have h4 : 0 ≤ a / b := Int.ediv_nonneg h0 (by omega)
  have hq : inI (a / b) := by unfold inI at *; omega
  rw [Int32.toInt_div, i32_to ha, i32_to hb, i32_to hq, Int.tdiv_eq_ediv_of_nonneg h0]
  unfold inI at hq
  apply Int.bmod_eq_of_le <;> simp <;> omega
theorem i32_rem {a b : Int} (ha : inI a) (hb : inI b) (h0 : 0 ≤ a) (h1 : 0 < b) : Int32.ofInt a - Int32.ofInt a / Int32.ofInt b * Int32.ofInt b = Int32.ofInt (a % b) := by
  rw [i32_div ha hb h0 h1, ← Int32.ofInt_mul, ← Int32.ofInt_sub]
  congr 1
  have := Int.ediv_mul_add_emod a b
  omega
theorem i64_div {a b : Int} (ha : inJ a) (hb : inJ b) (h0 : 0 ≤ a) (h1 : 0 < b) : Int64.ofInt a / Int64.ofInt b = Int64.ofInt (a / b) := by
  apply Int64.toInt_inj.mp
  have h3 : a / b ≤ a := Int.ediv_le_self b h0
  have h4 : 0 ≤ a / b := Int.ediv_nonneg h0 (by omega)
  have hq : inJ (a / b) := by unfold inJ at *; omega
  rw [Int64.toInt_div, i64_to ha, i64_to hb, i64_to hq, Int.tdiv_eq_ediv_of_nonneg h0]
  unfold inJ at hq
  apply Int.bmod_eq_of_le <;> simp <;> omega
theorem i64_rem {a b : Int} (ha : inJ a) (hb : inJ b) (h0 : 0 ≤ a) (h1 : 0 < b) : Int64.ofInt a - Int64.ofInt a / Int64.ofInt b * Int64.ofInt b = Int64.ofInt (a % b) := by
  rw [i64_div ha hb h0 h1, ← Int64.ofInt_mul, ← Int64.ofInt_sub]
  congr 1
  have := Int.ediv_mul_add_emod a b
  omega
section RULES
variable {X : xC} {Post : xP} {k j n : Nat} {w : xW} {pc : Nat} {L : List (Option xV)} {st : List xV}

theorem ex_iconst {v : Int} (hd : decode X.1 pc = .ok (.iconst v, 1)) (hv : -32768 ≤ v ∧ v ≤ 32767) (kk : Ex X Post k j n w (pc + 1) L (xi v :: st)) : Ex X Post k j n w pc L (st) := by
  intro p l e R s m args below meth c H locs Q B D ls hC hR hk hS hL hst
  exact lv_iconst hC.1 hC.2.1 hd rfl (kk p l e R s m args below meth c H locs Q B D ls hC hR hk hS hL (hstc (by show inI v; unfold inI; omega) hst))

theorem ex_bipush {v : Int} (hd : decode X.1 pc = .ok (.bipush v, 2)) (hv : -128 ≤ v ∧ v ≤ 127) (kk : Ex X Post k j n w (pc + 2) L (xi v :: st)) : Ex X Post k j n w pc L (st) := by
  intro p l e R s m args below meth c H locs Q B D ls hC hR hk hS hL hst
  exact lv_bipush hC.1 hC.2.1 hd (i8_32 hv) (kk p l e R s m args below meth c H locs Q B D ls hC hR hk hS hL (hstc (by show inI v; unfold inI; omega) hst))

theorem ex_sipush {v : Int} (hd : decode X.1 pc = .ok (.sipush v, 3)) (hv : -32768 ≤ v ∧ v ≤ 32767) (kk : Ex X Post k j n w (pc + 3) L (xi v :: st)) : Ex X Post k j n w pc L (st) := by
  intro p l e R s m args below meth c H locs Q B D ls hC hR hk hS hL hst
  exact lv_sipush hC.1 hC.2.1 hd (i16_32 hv) (kk p l e R s m args below meth c H locs Q B D ls hC hR hk hS hL (hstc (by show inI v; unfold inI; omega) hst))

theorem ex_lconst1 (hd : decode X.1 pc = .ok (.lconst 1, 1)) (kk : Ex X Post k j n w (pc + 1) L (xl 1 :: st)) : Ex X Post k j n w pc L (st) := by
  intro p l e R s m args below meth c H locs Q B D ls hC hR hk hS hL hst
  exact lv_lconst hC.1 hC.2.1 hd (by decide) (kk p l e R s m args below meth c H locs Q B D ls hC hR hk hS hL (hstc (by show inJ 1; unfold inJ; omega) hst))

theorem ex_ldcw {idx : Nat} {v : Int} (hd : decode X.1 pc = .ok (.ldc_w idx, 3)) (hv : inI v) (hw : Cond.constant X.2.1 idx (Int32.ofInt v) ∈ xWS) (kk : Ex X Post k j n w (pc + 3) L (xi v :: st)) : Ex X Post k j n w pc L (st) := by
  intro p l e R s m args below meth c H locs Q B D ls hC hR hk hS hL hst
  exact lv_ldcw hC.1 hC.2.1 hC.2.2.1 (hC.2.2.2.1 _ hw) hd (kk p l e R s m args below meth c H locs Q B D ls hC hR hk hS hL (hstc hv hst))

theorem ex_ldc2 {idx : Nat} {v : Int} (hd : decode X.1 pc = .ok (.ldc2_w idx, 3)) (hv : inJ v) (hw : Cond.constantLong X.2.1 idx (Int64.ofInt v) ∈ xWS) (kk : Ex X Post k j n w (pc + 3) L (xl v :: st)) : Ex X Post k j n w pc L (st) := by
  intro p l e R s m args below meth c H locs Q B D ls hC hR hk hS hL hst
  exact lv_ldc2 hC.1 hC.2.1 hC.2.2.1 (hC.2.2.2.1 _ hw) hd (kk p l e R s m args below meth c H locs Q B D ls hC hR hk hS hL (hstc hv hst))

theorem ex_iload_n {i : Fin 4} {x : Int} (hd : decode X.1 pc = .ok (.iload_n i, 1)) (hl : L[(i : Nat)]? = some (some (xi x))) (kk : Ex X Post k j n w (pc + 1) L (xi x :: st)) : Ex X Post k j n w pc L (st) := by
  intro p l e R s m args below meth c H locs Q B D ls hC hR hk hS hL hst
  exact lv_iload_n hC.1 hC.2.1 hd rfl (hL.at hl) (kk p l e R s m args below meth c H locs Q B D ls hC hR hk hS hL (hstc (hL.inv hl) hst))

theorem ex_iload {i : Nat} {x : Int} (hd : decode X.1 pc = .ok (.iload i, 2)) (hl : L[i]? = some (some (xi x))) (kk : Ex X Post k j n w (pc + 2) L (xi x :: st)) : Ex X Post k j n w pc L (st) := by
  intro p l e R s m args below meth c H locs Q B D ls hC hR hk hS hL hst
  exact lv_iload hC.1 hC.2.1 hd (hL.at hl) (kk p l e R s m args below meth c H locs Q B D ls hC hR hk hS hL (hstc (hL.inv hl) hst))

theorem ex_lload_n {i : Fin 4} {x : Int} (hd : decode X.1 pc = .ok (.lload_n i, 1)) (hl : L[(i : Nat)]? = some (some (xl x))) (kk : Ex X Post k j n w (pc + 1) L (xl x :: st)) : Ex X Post k j n w pc L (st) := by
  intro p l e R s m args below meth c H locs Q B D ls hC hR hk hS hL hst
  exact lv_lload_n hC.1 hC.2.1 hd rfl (hL.at hl) (kk p l e R s m args below meth c H locs Q B D ls hC hR hk hS hL (hstc (hL.inv hl) hst))

theorem ex_lload {i : Nat} {x : Int} (hd : decode X.1 pc = .ok (.lload i, 2)) (hl : L[i]? = some (some (xl x))) (kk : Ex X Post k j n w (pc + 2) L (xl x :: st)) : Ex X Post k j n w pc L (st) := by
  intro p l e R s m args below meth c H locs Q B D ls hC hR hk hS hL hst
  exact lv_lload hC.1 hC.2.1 hd (hL.at hl) (kk p l e R s m args below meth c H locs Q B D ls hC hR hk hS hL (hstc (hL.inv hl) hst))

theorem ex_aload_n {i : Fin 4} {x : Nat} (hd : decode X.1 pc = .ok (.aload_n i, 1)) (hl : L[(i : Nat)]? = some (some (xr x))) (kk : Ex X Post k j n w (pc + 1) L (xr x :: st)) : Ex X Post k j n w pc L (st) := by
  intro p l e R s m args below meth c H locs Q B D ls hC hR hk hS hL hst
  exact lv_aload_n hC.1 hC.2.1 hd rfl (hL.at hl) (kk p l e R s m args below meth c H locs Q B D ls hC hR hk hS hL (hstc (hL.inv hl) hst))

theorem ex_aload {i : Nat} {x : Nat} (hd : decode X.1 pc = .ok (.aload i, 2)) (hl : L[i]? = some (some (xr x))) (kk : Ex X Post k j n w (pc + 2) L (xr x :: st)) : Ex X Post k j n w pc L (st) := by
  intro p l e R s m args below meth c H locs Q B D ls hC hR hk hS hL hst
  exact lv_aload hC.1 hC.2.1 hd (hL.at hl) (kk p l e R s m args below meth c H locs Q B D ls hC hR hk hS hL (hstc (hL.inv hl) hst))

theorem ex_aloado_n {i : Fin 4} {x : Nat} (hd : decode X.1 pc = .ok (.aload_n i, 1)) (hl : L[(i : Nat)]? = some (some (xo x))) (kk : Ex X Post k j n w (pc + 1) L (xo x :: st)) : Ex X Post k j n w pc L (st) := by
  intro p l e R s m args below meth c H locs Q B D ls hC hR hk hS hL hst
  exact lv_aload_n hC.1 hC.2.1 hd rfl (hL.at hl) (kk p l e R s m args below meth c H locs Q B D ls hC hR hk hS hL (hstc (hL.inv hl) hst))

theorem ex_aloado {i : Nat} {x : Nat} (hd : decode X.1 pc = .ok (.aload i, 2)) (hl : L[i]? = some (some (xo x))) (kk : Ex X Post k j n w (pc + 2) L (xo x :: st)) : Ex X Post k j n w pc L (st) := by
  intro p l e R s m args below meth c H locs Q B D ls hC hR hk hS hL hst
  exact lv_aload hC.1 hC.2.1 hd (hL.at hl) (kk p l e R s m args below meth c H locs Q B D ls hC hR hk hS hL (hstc (hL.inv hl) hst))

theorem ex_istore_n {i : Fin 4} {x : Int} {L2 : List (Option xV)} (hd : decode X.1 pc = .ok (.istore_n i, 1)) (hok : stOK L (i : Nat) = true) (hi : (i : Nat) < L.length) (hL2 : L.set (i : Nat) (some (xi x)) = L2) (kk : Ex X Post k j n w (pc + 1) L2 st) : Ex X Post k j n w pc L (xi x :: st) := by
  intro p l e R s m args below meth c H locs Q B D ls hC hR hk hS hL hst
  subst hL2
  exact lv_istore_n hC.1 hC.2.1 hd rfl hL.2.1 hi rfl (fun ls2 h2 => kk p l e R s m args below meth c H locs Q B D ls2 hC hR hk hS (hL.store hok hi (hst1 hst) h2) (hst2 hst))

theorem ex_istore {i : Nat} {x : Int} {L2 : List (Option xV)} (hd : decode X.1 pc = .ok (.istore i, 2)) (hok : stOK L i = true) (hi : i < L.length) (hL2 : L.set i (some (xi x)) = L2) (kk : Ex X Post k j n w (pc + 2) L2 st) : Ex X Post k j n w pc L (xi x :: st) := by
  intro p l e R s m args below meth c H locs Q B D ls hC hR hk hS hL hst
  subst hL2
  exact lv_istore hC.1 hC.2.1 hd hL.2.1 hi rfl (fun ls2 h2 => kk p l e R s m args below meth c H locs Q B D ls2 hC hR hk hS (hL.store hok hi (hst1 hst) h2) (hst2 hst))

theorem ex_astore_n {i : Fin 4} {x : Nat} {L2 : List (Option xV)} (hd : decode X.1 pc = .ok (.astore_n i, 1)) (hok : stOK L (i : Nat) = true) (hi : (i : Nat) < L.length) (hL2 : L.set (i : Nat) (some (xr x)) = L2) (kk : Ex X Post k j n w (pc + 1) L2 st) : Ex X Post k j n w pc L (xr x :: st) := by
  intro p l e R s m args below meth c H locs Q B D ls hC hR hk hS hL hst
  subst hL2
  exact lv_astore_n hC.1 hC.2.1 hd rfl hL.2.1 hi rfl (fun ls2 h2 => kk p l e R s m args below meth c H locs Q B D ls2 hC hR hk hS (hL.store hok hi (hst1 hst) h2) (hst2 hst))

theorem ex_astore {i : Nat} {x : Nat} {L2 : List (Option xV)} (hd : decode X.1 pc = .ok (.astore i, 2)) (hok : stOK L i = true) (hi : i < L.length) (hL2 : L.set i (some (xr x)) = L2) (kk : Ex X Post k j n w (pc + 2) L2 st) : Ex X Post k j n w pc L (xr x :: st) := by
  intro p l e R s m args below meth c H locs Q B D ls hC hR hk hS hL hst
  subst hL2
  exact lv_astore hC.1 hC.2.1 hd hL.2.1 hi rfl (fun ls2 h2 => kk p l e R s m args below meth c H locs Q B D ls2 hC hR hk hS (hL.store hok hi (hst1 hst) h2) (hst2 hst))

theorem ex_lstore_n {i : Fin 4} {x : Int} {L2 : List (Option xV)} (hd : decode X.1 pc = .ok (.lstore_n i, 1)) (hok : stOK L (i : Nat) = true) (hi : (i : Nat) + 1 < L.length) (hL2 : (L.set (i : Nat) (some (xl x))).set ((i : Nat) + 1) none = L2) (kk : Ex X Post k j n w (pc + 1) L2 st) : Ex X Post k j n w pc L (xl x :: st) := by
  intro p l e R s m args below meth c H locs Q B D ls hC hR hk hS hL hst
  subst hL2
  exact lv_lstore_n hC.1 hC.2.1 hd rfl hL.2.1 hi rfl (fun ls2 h2 => kk p l e R s m args below meth c H locs Q B D ls2 hC hR hk hS (hL.store2 hok hi (hst1 hst) h2) (hst2 hst))

theorem ex_lstore {i : Nat} {x : Int} {L2 : List (Option xV)} (hd : decode X.1 pc = .ok (.lstore i, 2)) (hok : stOK L i = true) (hi : i + 1 < L.length) (hL2 : (L.set i (some (xl x))).set (i + 1) none = L2) (kk : Ex X Post k j n w (pc + 2) L2 st) : Ex X Post k j n w pc L (xl x :: st) := by
  intro p l e R s m args below meth c H locs Q B D ls hC hR hk hS hL hst
  subst hL2
  exact lv_lstore hC.1 hC.2.1 hd hL.2.1 hi rfl (fun ls2 h2 => kk p l e R s m args below meth c H locs Q B D ls2 hC hR hk hS (hL.store2 hok hi (hst1 hst) h2) (hst2 hst))

theorem ex_iinc {i : Nat} {d x : Int} {L2 : List (Option xV)} (hd : decode X.1 pc = .ok (.iinc i d, 3)) (hl : L[i]? = some (some (xi x))) (hok : stOK L i = true) (hi : i < L.length) (hr : inI (x + d)) (hL2 : L.set i (some (xi (x + d))) = L2) (kk : Ex X Post k j n w (pc + 3) L2 st) : Ex X Post k j n w pc L st := by
  intro p l e R s m args below meth c H locs Q B D ls hC hR hk hS hL hst
  subst hL2
  obtain ⟨q, -, hq⟩ : ∃ q, True ∧ (prL B L)[q]? = some (i, Value.int (Int32.ofInt x)) := by
    obtain ⟨q, hq⟩ := List.mem_iff_getElem?.mp (mem_prL.mpr ⟨xi x, hl, rfl⟩ : (i, rv B (xi x)) ∈ prL B L)
    exact ⟨q, trivial, hq⟩
  exact lv_iinc (v := Int32.ofInt (x + d)) hC.1 hC.2.1 hd hL.2.1 hq (by rw [Int32.ofInt_add]) hi rfl (fun ls2 h2 => kk p l e R s m args below meth c H locs Q B D ls2 hC hR hk hS (hL.store hok hi hr h2) hst)

theorem ex_iadd {a b : Int} (hd : decode X.1 pc = .ok (.iadd, 1)) (hr : inI (a + b)) (kk : Ex X Post k j n w (pc + 1) L (xi (a + b) :: st)) : Ex X Post k j n w pc L (xi b :: xi a :: st) := by
  intro p l e R s m args below meth c H locs Q B D ls hC hR hk hS hL hst
  refine lv_iadd hC.1 hC.2.1 hd ?_
  rw [← Int32.ofInt_add]
  exact kk p l e R s m args below meth c H locs Q B D ls hC hR hk hS hL (hstc hr (hst2 (hst2 hst)))

theorem ex_isub {a b : Int} (hd : decode X.1 pc = .ok (.isub, 1)) (hr : inI (a - b)) (kk : Ex X Post k j n w (pc + 1) L (xi (a - b) :: st)) : Ex X Post k j n w pc L (xi b :: xi a :: st) := by
  intro p l e R s m args below meth c H locs Q B D ls hC hR hk hS hL hst
  refine lv_isub hC.1 hC.2.1 hd ?_
  rw [← Int32.ofInt_sub]
  exact kk p l e R s m args below meth c H locs Q B D ls hC hR hk hS hL (hstc hr (hst2 (hst2 hst)))

theorem ex_imul {a b : Int} (hd : decode X.1 pc = .ok (.imul, 1)) (hr : inI (a * b)) (kk : Ex X Post k j n w (pc + 1) L (xi (a * b) :: st)) : Ex X Post k j n w pc L (xi b :: xi a :: st) := by
  intro p l e R s m args below meth c H locs Q B D ls hC hR hk hS hL hst
  refine lv_imul hC.1 hC.2.1 hd ?_
  rw [← Int32.ofInt_mul]
  exact kk p l e R s m args below meth c H locs Q B D ls hC hR hk hS hL (hstc hr (hst2 (hst2 hst)))

theorem ex_ladd {a b : Int} (hd : decode X.1 pc = .ok (.ladd, 1)) (hr : inJ (a + b)) (kk : Ex X Post k j n w (pc + 1) L (xl (a + b) :: st)) : Ex X Post k j n w pc L (xl b :: xl a :: st) := by
  intro p l e R s m args below meth c H locs Q B D ls hC hR hk hS hL hst
  refine lv_ladd hC.1 hC.2.1 hd ?_
  rw [← Int64.ofInt_add]
  exact kk p l e R s m args below meth c H locs Q B D ls hC hR hk hS hL (hstc hr (hst2 (hst2 hst)))

theorem ex_lmul {a b : Int} (hd : decode X.1 pc = .ok (.lmul, 1)) (hr : inJ (a * b)) (kk : Ex X Post k j n w (pc + 1) L (xl (a * b) :: st)) : Ex X Post k j n w pc L (xl b :: xl a :: st) := by
  intro p l e R s m args below meth c H locs Q B D ls hC hR hk hS hL hst
  refine lv_lmul hC.1 hC.2.1 hd ?_
  rw [← Int64.ofInt_mul]
  exact kk p l e R s m args below meth c H locs Q B D ls hC hR hk hS hL (hstc hr (hst2 (hst2 hst)))

theorem ex_ineg {a : Int} (hd : decode X.1 pc = .ok (.ineg, 1)) (hr : inI (-a)) (kk : Ex X Post k j n w (pc + 1) L (xi (-a) :: st)) : Ex X Post k j n w pc L (xi a :: st) := by
  intro p l e R s m args below meth c H locs Q B D ls hC hR hk hS hL hst
  refine lv_ineg hC.1 hC.2.1 hd ?_
  rw [← Int32.ofInt_neg]
  exact kk p l e R s m args below meth c H locs Q B D ls hC hR hk hS hL (hstc hr (hst2 hst))

theorem ex_idiv {a b : Int} (hd : decode X.1 pc = .ok (.idiv, 1)) (h0 : 0 ≤ a) (h1 : 0 < b) (kk : Ex X Post k j n w (pc + 1) L (xi (a / b) :: st)) : Ex X Post k j n w pc L (xi b :: xi a :: st) := by
  intro p l e R s m args below meth c H locs Q B D ls hC hR hk hS hL hst
  refine lv_idiv hC.1 hC.2.1 hd (fun h => by have h2 : Int32.ofInt b = Int32.ofInt 0 := h; rw [i32_eq (hst1 hst) (by unfold inI; omega)] at h2; omega) ?_
  rw [i32_div (hst1 (hst2 hst)) (hst1 hst) h0 h1]
  have hr : inI (a / b) := by
    have h3 : a / b ≤ a := Int.ediv_le_self b h0
    have h4 : 0 ≤ a / b := Int.ediv_nonneg h0 (by omega)
    have h5 : inI a := hst1 (hst2 hst)
    unfold inI at *; omega
  exact kk p l e R s m args below meth c H locs Q B D ls hC hR hk hS hL (hstc hr (hst2 (hst2 hst)))

theorem ex_irem {a b : Int} (hd : decode X.1 pc = .ok (.irem, 1)) (h0 : 0 ≤ a) (h1 : 0 < b) (kk : Ex X Post k j n w (pc + 1) L (xi (a % b) :: st)) : Ex X Post k j n w pc L (xi b :: xi a :: st) := by
  intro p l e R s m args below meth c H locs Q B D ls hC hR hk hS hL hst
  refine lv_irem hC.1 hC.2.1 hd (fun h => by have h2 : Int32.ofInt b = Int32.ofInt 0 := h; rw [i32_eq (hst1 hst) (by unfold inI; omega)] at h2; omega) ?_
  rw [i32_rem (hst1 (hst2 hst)) (hst1 hst) h0 h1]
  have hr : inI (a % b) := by
    have h3 := Int.emod_lt_of_pos a h1
    have h4 := Int.emod_nonneg a (show b ≠ 0 by omega)
    have h5 : inI b := hst1 hst
    unfold inI at *; omega
  exact kk p l e R s m args below meth c H locs Q B D ls hC hR hk hS hL (hstc hr (hst2 (hst2 hst)))

theorem ex_iremT {a b : Int} (hd : decode X.1 pc = .ok (.irem, 1)) (h1 : 0 < b) (kk : Ex X Post k j n w (pc + 1) L (xi (Int.tmod a b) :: st)) : Ex X Post k j n w pc L (xi b :: xi a :: st) := by
  intro p l e R s m args below meth c H locs Q B D ls hC hR hk hS hL hst
  refine lv_irem hC.1 hC.2.1 hd (fun h => by have h2 : Int32.ofInt b = Int32.ofInt 0 := h; rw [i32_eq (hst1 hst) (by unfold inI; omega)] at h2; omega) ?_
  have ha : inI a := hst1 (hst2 hst)
  have hb : inI b := hst1 hst
  have h5 : (Int.tmod a b) = a - Int.tdiv a b * b := by have := Int.tdiv_mul_add_tmod a b; omega
  have h6 : Int.tmod a b < b := Int.tmod_lt_of_pos a h1
  have h7 : -b < Int.tmod a b := by
    rcases Int.le_total 0 a with q | q
    · have := Int.tmod_nonneg b q
      omega
    · have h8 := Int.tmod_lt_of_pos (-a) h1
      rw [Int.neg_tmod] at h8
      omega
  have hr : inI (Int.tmod a b) := by unfold inI at *; omega
  have hq : inI (Int.tdiv a b) := by
    have := Int.natAbs_tdiv_le_natAbs a b
    unfold inI at *
    by_cases h8 : b = 1
    · subst h8; rw [Int.tdiv_one]; exact ha
    · have h9 : (Int.tdiv a b).natAbs < a.natAbs ∨ a = 0 := by
        by_cases h0 : a = 0
        · exact Or.inr h0
        · left
          rw [Int.natAbs_tdiv]
          exact Nat.div_lt_self (by omega) (by omega)
      rcases h9 with h9 | h9
      · omega
      · subst h9; simp
  have e1 : Int32.ofInt a / Int32.ofInt b = Int32.ofInt (Int.tdiv a b) := by
    apply Int32.toInt_inj.mp
    rw [Int32.toInt_div, i32_to ha, i32_to hb, i32_to hq]
    unfold inI at hq
    apply Int.bmod_eq_of_le <;> simp <;> omega
  rw [e1, ← Int32.ofInt_mul, ← Int32.ofInt_sub, ← h5]
  exact kk p l e R s m args below meth c H locs Q B D ls hC hR hk hS hL (hstc hr (hst2 (hst2 hst)))

theorem ex_lrem {a b : Int} (hd : decode X.1 pc = .ok (.lrem, 1)) (h0 : 0 ≤ a) (h1 : 0 < b) (kk : Ex X Post k j n w (pc + 1) L (xl (a % b) :: st)) : Ex X Post k j n w pc L (xl b :: xl a :: st) := by
  intro p l e R s m args below meth c H locs Q B D ls hC hR hk hS hL hst
  refine lv_lrem hC.1 hC.2.1 hd (fun h => by have h3 : (Int64.ofInt b).toInt = (Int64.ofInt 0).toInt := congrArg Int64.toInt h; rw [i64_to (hst1 hst), i64_to (by unfold inJ; omega)] at h3; omega) ?_
  rw [i64_rem (hst1 (hst2 hst)) (hst1 hst) h0 h1]
  have hr : inJ (a % b) := by
    have h3 := Int.emod_lt_of_pos a h1
    have h4 := Int.emod_nonneg a (show b ≠ 0 by omega)
    have h5 : inJ b := hst1 hst
    unfold inJ at *; omega
  exact kk p l e R s m args below meth c H locs Q B D ls hC hR hk hS hL (hstc hr (hst2 (hst2 hst)))

theorem ex_iand {a b : Int} (hd : decode X.1 pc = .ok (.iand, 1)) (kk : Ex X Post k j n w (pc + 1) L (xi (xand a b) :: st)) : Ex X Post k j n w pc L (xi b :: xi a :: st) := by
  intro p l e R s m args below meth c H locs Q B D ls hC hR hk hS hL hst
  refine lv_iand hC.1 hC.2.1 hd ?_
  have h9 := kk p l e R s m args below meth c H locs Q B D ls hC hR hk hS hL (hstc (i32_r _) (hst2 (hst2 hst)))
  have e9 : rv B (xi (xand a b)) = _ := congrArg Value.int (i32_back _)
  rw [List.map_cons, e9] at h9
  exact h9

theorem ex_ior {a b : Int} (hd : decode X.1 pc = .ok (.ior, 1)) (kk : Ex X Post k j n w (pc + 1) L (xi (xor a b) :: st)) : Ex X Post k j n w pc L (xi b :: xi a :: st) := by
  intro p l e R s m args below meth c H locs Q B D ls hC hR hk hS hL hst
  refine lv_ior hC.1 hC.2.1 hd ?_
  have h9 := kk p l e R s m args below meth c H locs Q B D ls hC hR hk hS hL (hstc (i32_r _) (hst2 (hst2 hst)))
  have e9 : rv B (xi (xor a b)) = _ := congrArg Value.int (i32_back _)
  rw [List.map_cons, e9] at h9
  exact h9

theorem ex_ixor {a b : Int} (hd : decode X.1 pc = .ok (.ixor, 1)) (kk : Ex X Post k j n w (pc + 1) L (xi (xxor a b) :: st)) : Ex X Post k j n w pc L (xi b :: xi a :: st) := by
  intro p l e R s m args below meth c H locs Q B D ls hC hR hk hS hL hst
  refine lv_ixor hC.1 hC.2.1 hd ?_
  have h9 := kk p l e R s m args below meth c H locs Q B D ls hC hR hk hS hL (hstc (i32_r _) (hst2 (hst2 hst)))
  have e9 : rv B (xi (xxor a b)) = _ := congrArg Value.int (i32_back _)
  rw [List.map_cons, e9] at h9
  exact h9

theorem ex_ishl {a b : Int} (hd : decode X.1 pc = .ok (.ishl, 1)) (kk : Ex X Post k j n w (pc + 1) L (xi (xshl a b) :: st)) : Ex X Post k j n w pc L (xi b :: xi a :: st) := by
  intro p l e R s m args below meth c H locs Q B D ls hC hR hk hS hL hst
  refine lv_ishl hC.1 hC.2.1 hd ?_
  have h9 := kk p l e R s m args below meth c H locs Q B D ls hC hR hk hS hL (hstc (i32_r _) (hst2 (hst2 hst)))
  have e9 : rv B (xi (xshl a b)) = _ := congrArg Value.int (i32_back _)
  rw [List.map_cons, e9] at h9
  exact h9

theorem ex_ishr {a b : Int} (hd : decode X.1 pc = .ok (.ishr, 1)) (kk : Ex X Post k j n w (pc + 1) L (xi (xshr a b) :: st)) : Ex X Post k j n w pc L (xi b :: xi a :: st) := by
  intro p l e R s m args below meth c H locs Q B D ls hC hR hk hS hL hst
  refine lv_ishr hC.1 hC.2.1 hd ?_
  have h9 := kk p l e R s m args below meth c H locs Q B D ls hC hR hk hS hL (hstc (i32_r _) (hst2 (hst2 hst)))
  have e9 : rv B (xi (xshr a b)) = _ := congrArg Value.int (i32_back _)
  rw [List.map_cons, e9] at h9
  exact h9

theorem ex_iushr {a b : Int} (hd : decode X.1 pc = .ok (.iushr, 1)) (kk : Ex X Post k j n w (pc + 1) L (xi (xushr a b) :: st)) : Ex X Post k j n w pc L (xi b :: xi a :: st) := by
  intro p l e R s m args below meth c H locs Q B D ls hC hR hk hS hL hst
  exact lv_iushr hC.1 hC.2.1 hd (i32_back _).symm (kk p l e R s m args below meth c H locs Q B D ls hC hR hk hS hL (hstc (i32_r _) (hst2 (hst2 hst))))

theorem ex_i2l {a : Int} (hd : decode X.1 pc = .ok (.i2l, 1)) (kk : Ex X Post k j n w (pc + 1) L (xl a :: st)) : Ex X Post k j n w pc L (xi a :: st) := by
  intro p l e R s m args below meth c H locs Q B D ls hC hR hk hS hL hst
  have h5 : inI a := hst1 hst
  have h6 : inJ a := by unfold inI at h5; unfold inJ; omega
  exact lv_i2l hC.1 hC.2.1 hd (by apply Int64.toInt_inj.mp; rw [Int32.toInt_toInt64, i32_to h5, i64_to h6]) (kk p l e R s m args below meth c H locs Q B D ls hC hR hk hS hL (hstc h6 (hst2 hst)))

theorem ex_l2i {a : Int} (hd : decode X.1 pc = .ok (.l2i, 1)) (hr : inI a) (kk : Ex X Post k j n w (pc + 1) L (xi a :: st)) : Ex X Post k j n w pc L (xl a :: st) := by
  intro p l e R s m args below meth c H locs Q B D ls hC hR hk hS hL hst
  exact lv_l2i hC.1 hC.2.1 hd (by apply Int32.toInt_inj.mp; rw [Int64.toInt_toInt32, i32_to hr, i64_to (hst1 hst)]; unfold inI at hr; apply Int.bmod_eq_of_le <;> simp <;> omega) (kk p l e R s m args below meth c H locs Q B D ls hC hR hk hS hL (hstc hr (hst2 hst)))

theorem ex_dup {v : xV} (hd : decode X.1 pc = .ok (.dup, 1)) (hc : xcat v = 1) (kk : Ex X Post k j n w (pc + 1) L (v :: v :: st)) : Ex X Post k j n w pc L (v :: st) := by
  intro p l e R s m args below meth c H locs Q B D ls hC hR hk hS hL hst
  exact lv_dup hC.1 hC.2.1 hd (by rw [rv_cat]; exact hc) (kk p l e R s m args below meth c H locs Q B D ls hC hR hk hS hL (hstc (hst1 hst) hst))

theorem ex_pop {v : xV} (hd : decode X.1 pc = .ok (.pop, 1)) (hc : xcat v = 1) (kk : Ex X Post k j n w (pc + 1) L (st)) : Ex X Post k j n w pc L (v :: st) := by
  intro p l e R s m args below meth c H locs Q B D ls hC hR hk hS hL hst
  exact lv_pop hC.1 hC.2.1 hd (by rw [rv_cat]; exact hc) (kk p l e R s m args below meth c H locs Q B D ls hC hR hk hS hL (hst2 hst))

theorem ex_dup2 {v u : xV} (hd : decode X.1 pc = .ok (.dup2, 1)) (hc : xcat v = 1) (hc2 : xcat u = 1) (kk : Ex X Post k j n w (pc + 1) L (v :: u :: v :: u :: st)) : Ex X Post k j n w pc L (v :: u :: st) := by
  intro p l e R s m args below meth c H locs Q B D ls hC hR hk hS hL hst
  exact lv_dup2_11 hC.1 hC.2.1 hd (by rw [rv_cat]; exact hc) (by rw [rv_cat]; exact hc2) (kk p l e R s m args below meth c H locs Q B D ls hC hR hk hS hL (hstc (hst1 hst) (hstc (hst1 (hst2 hst)) hst)))

theorem ex_if_eq {a : Int} {off : Int} {tgt : Nat} (hd : decode X.1 pc = .ok (.ifCond .eq off, 3)) (ht : (pc : Int) + off = (tgt : Int)) (kt : a = 0 → Ex X Post k j n w tgt L st) (kf : ¬ (a = 0) → Ex X Post k j n w (pc + 3) L st) : Ex X Post k j n w pc L (xi a :: st) := by
  intro p l e R s m args below meth c H locs Q B D ls hC hR hk hS hL hst
  have hi := i32_eq (hst1 hst) (show inI 0 by unfold inI; omega)
  exact lv_if_eq hC.1 hC.2.1 hd ht (fun h => kt (hi.mp h) p l e R s m args below meth c H locs Q B D ls hC hR hk hS hL (hst2 hst)) (fun h => kf (fun q => h (hi.mpr q)) p l e R s m args below meth c H locs Q B D ls hC hR hk hS hL (hst2 hst))

theorem ex_if_ne {a : Int} {off : Int} {tgt : Nat} (hd : decode X.1 pc = .ok (.ifCond .ne off, 3)) (ht : (pc : Int) + off = (tgt : Int)) (kt : ¬ a = 0 → Ex X Post k j n w tgt L st) (kf : a = 0 → Ex X Post k j n w (pc + 3) L st) : Ex X Post k j n w pc L (xi a :: st) := by
  intro p l e R s m args below meth c H locs Q B D ls hC hR hk hS hL hst
  have hi := i32_eq (hst1 hst) (show inI 0 by unfold inI; omega)
  exact lv_if_ne hC.1 hC.2.1 hd ht (fun h => kt (fun q => h (hi.mpr q)) p l e R s m args below meth c H locs Q B D ls hC hR hk hS hL (hst2 hst)) (fun h => kf (hi.mp h) p l e R s m args below meth c H locs Q B D ls hC hR hk hS hL (hst2 hst))

theorem ex_if_lt {a : Int} {off : Int} {tgt : Nat} (hd : decode X.1 pc = .ok (.ifCond .lt off, 3)) (ht : (pc : Int) + off = (tgt : Int)) (kt : a < 0 → Ex X Post k j n w tgt L st) (kf : ¬ (a < 0) → Ex X Post k j n w (pc + 3) L st) : Ex X Post k j n w pc L (xi a :: st) := by
  intro p l e R s m args below meth c H locs Q B D ls hC hR hk hS hL hst
  have hi := i32_lt (hst1 hst) (show inI 0 by unfold inI; omega)
  exact lv_if_lt hC.1 hC.2.1 hd ht (fun h => kt (hi.mp h) p l e R s m args below meth c H locs Q B D ls hC hR hk hS hL (hst2 hst)) (fun h => kf (fun q => h (hi.mpr q)) p l e R s m args below meth c H locs Q B D ls hC hR hk hS hL (hst2 hst))

theorem ex_if_ge {a : Int} {off : Int} {tgt : Nat} (hd : decode X.1 pc = .ok (.ifCond .ge off, 3)) (ht : (pc : Int) + off = (tgt : Int)) (kt : 0 ≤ a → Ex X Post k j n w tgt L st) (kf : ¬ (0 ≤ a) → Ex X Post k j n w (pc + 3) L st) : Ex X Post k j n w pc L (xi a :: st) := by
  intro p l e R s m args below meth c H locs Q B D ls hC hR hk hS hL hst
  have hi := i32_le (show inI 0 by unfold inI; omega) (hst1 hst)
  exact lv_if_ge hC.1 hC.2.1 hd ht (fun h => kt (hi.mp h) p l e R s m args below meth c H locs Q B D ls hC hR hk hS hL (hst2 hst)) (fun h => kf (fun q => h (hi.mpr q)) p l e R s m args below meth c H locs Q B D ls hC hR hk hS hL (hst2 hst))

theorem ex_if_gt {a : Int} {off : Int} {tgt : Nat} (hd : decode X.1 pc = .ok (.ifCond .gt off, 3)) (ht : (pc : Int) + off = (tgt : Int)) (kt : 0 < a → Ex X Post k j n w tgt L st) (kf : ¬ (0 < a) → Ex X Post k j n w (pc + 3) L st) : Ex X Post k j n w pc L (xi a :: st) := by
  intro p l e R s m args below meth c H locs Q B D ls hC hR hk hS hL hst
  have hi := i32_lt (show inI 0 by unfold inI; omega) (hst1 hst)
  exact lv_if_gt hC.1 hC.2.1 hd ht (fun h => kt (hi.mp h) p l e R s m args below meth c H locs Q B D ls hC hR hk hS hL (hst2 hst)) (fun h => kf (fun q => h (hi.mpr q)) p l e R s m args below meth c H locs Q B D ls hC hR hk hS hL (hst2 hst))

theorem ex_if_le {a : Int} {off : Int} {tgt : Nat} (hd : decode X.1 pc = .ok (.ifCond .le off, 3)) (ht : (pc : Int) + off = (tgt : Int)) (kt : a ≤ 0 → Ex X Post k j n w tgt L st) (kf : ¬ (a ≤ 0) → Ex X Post k j n w (pc + 3) L st) : Ex X Post k j n w pc L (xi a :: st) := by
  intro p l e R s m args below meth c H locs Q B D ls hC hR hk hS hL hst
  have hi := i32_le (hst1 hst) (show inI 0 by unfold inI; omega)
  exact lv_if_le hC.1 hC.2.1 hd ht (fun h => kt (hi.mp h) p l e R s m args below meth c H locs Q B D ls hC hR hk hS hL (hst2 hst)) (fun h => kf (fun q => h (hi.mpr q)) p l e R s m args below meth c H locs Q B D ls hC hR hk hS hL (hst2 hst))

theorem ex_icmp_eq {a b : Int} {off : Int} {tgt : Nat} (hd : decode X.1 pc = .ok (.if_icmp .eq off, 3)) (ht : (pc : Int) + off = (tgt : Int)) (kt : a = b → Ex X Post k j n w tgt L st) (kf : ¬ (a = b) → Ex X Post k j n w (pc + 3) L st) : Ex X Post k j n w pc L (xi b :: xi a :: st) := by
  intro p l e R s m args below meth c H locs Q B D ls hC hR hk hS hL hst
  have hi := i32_eq (hst1 (hst2 hst)) (hst1 hst)
  exact lv_icmp_eq hC.1 hC.2.1 hd ht (fun h => kt (hi.mp h) p l e R s m args below meth c H locs Q B D ls hC hR hk hS hL (hst2 (hst2 hst))) (fun h => kf (fun q => h (hi.mpr q)) p l e R s m args below meth c H locs Q B D ls hC hR hk hS hL (hst2 (hst2 hst)))

theorem ex_icmp_ne {a b : Int} {off : Int} {tgt : Nat} (hd : decode X.1 pc = .ok (.if_icmp .ne off, 3)) (ht : (pc : Int) + off = (tgt : Int)) (kt : ¬ a = b → Ex X Post k j n w tgt L st) (kf : a = b → Ex X Post k j n w (pc + 3) L st) : Ex X Post k j n w pc L (xi b :: xi a :: st) := by
  intro p l e R s m args below meth c H locs Q B D ls hC hR hk hS hL hst
  have hi := i32_eq (hst1 (hst2 hst)) (hst1 hst)
  exact lv_icmp_ne hC.1 hC.2.1 hd ht (fun h => kt (fun q => h (hi.mpr q)) p l e R s m args below meth c H locs Q B D ls hC hR hk hS hL (hst2 (hst2 hst))) (fun h => kf (hi.mp h) p l e R s m args below meth c H locs Q B D ls hC hR hk hS hL (hst2 (hst2 hst)))

theorem ex_icmp_lt {a b : Int} {off : Int} {tgt : Nat} (hd : decode X.1 pc = .ok (.if_icmp .lt off, 3)) (ht : (pc : Int) + off = (tgt : Int)) (kt : a < b → Ex X Post k j n w tgt L st) (kf : ¬ (a < b) → Ex X Post k j n w (pc + 3) L st) : Ex X Post k j n w pc L (xi b :: xi a :: st) := by
  intro p l e R s m args below meth c H locs Q B D ls hC hR hk hS hL hst
  have hi := i32_lt (hst1 (hst2 hst)) (hst1 hst)
  exact lv_icmp_lt hC.1 hC.2.1 hd ht (fun h => kt (hi.mp h) p l e R s m args below meth c H locs Q B D ls hC hR hk hS hL (hst2 (hst2 hst))) (fun h => kf (fun q => h (hi.mpr q)) p l e R s m args below meth c H locs Q B D ls hC hR hk hS hL (hst2 (hst2 hst)))

theorem ex_icmp_ge {a b : Int} {off : Int} {tgt : Nat} (hd : decode X.1 pc = .ok (.if_icmp .ge off, 3)) (ht : (pc : Int) + off = (tgt : Int)) (kt : b ≤ a → Ex X Post k j n w tgt L st) (kf : ¬ (b ≤ a) → Ex X Post k j n w (pc + 3) L st) : Ex X Post k j n w pc L (xi b :: xi a :: st) := by
  intro p l e R s m args below meth c H locs Q B D ls hC hR hk hS hL hst
  have hi := i32_le (hst1 hst) (hst1 (hst2 hst))
  exact lv_icmp_ge hC.1 hC.2.1 hd ht (fun h => kt (hi.mp h) p l e R s m args below meth c H locs Q B D ls hC hR hk hS hL (hst2 (hst2 hst))) (fun h => kf (fun q => h (hi.mpr q)) p l e R s m args below meth c H locs Q B D ls hC hR hk hS hL (hst2 (hst2 hst)))

theorem ex_icmp_gt {a b : Int} {off : Int} {tgt : Nat} (hd : decode X.1 pc = .ok (.if_icmp .gt off, 3)) (ht : (pc : Int) + off = (tgt : Int)) (kt : b < a → Ex X Post k j n w tgt L st) (kf : ¬ (b < a) → Ex X Post k j n w (pc + 3) L st) : Ex X Post k j n w pc L (xi b :: xi a :: st) := by
  intro p l e R s m args below meth c H locs Q B D ls hC hR hk hS hL hst
  have hi := i32_lt (hst1 hst) (hst1 (hst2 hst))
  exact lv_icmp_gt hC.1 hC.2.1 hd ht (fun h => kt (hi.mp h) p l e R s m args below meth c H locs Q B D ls hC hR hk hS hL (hst2 (hst2 hst))) (fun h => kf (fun q => h (hi.mpr q)) p l e R s m args below meth c H locs Q B D ls hC hR hk hS hL (hst2 (hst2 hst)))

theorem ex_icmp_le {a b : Int} {off : Int} {tgt : Nat} (hd : decode X.1 pc = .ok (.if_icmp .le off, 3)) (ht : (pc : Int) + off = (tgt : Int)) (kt : a ≤ b → Ex X Post k j n w tgt L st) (kf : ¬ (a ≤ b) → Ex X Post k j n w (pc + 3) L st) : Ex X Post k j n w pc L (xi b :: xi a :: st) := by
  intro p l e R s m args below meth c H locs Q B D ls hC hR hk hS hL hst
  have hi := i32_le (hst1 (hst2 hst)) (hst1 hst)
  exact lv_icmp_le hC.1 hC.2.1 hd ht (fun h => kt (hi.mp h) p l e R s m args below meth c H locs Q B D ls hC hR hk hS hL (hst2 (hst2 hst))) (fun h => kf (fun q => h (hi.mpr q)) p l e R s m args below meth c H locs Q B D ls hC hR hk hS hL (hst2 (hst2 hst)))

theorem ex_goto {off : Int} {tgt : Nat} (hd : decode X.1 pc = .ok (.goto off, 3)) (ht : (pc : Int) + off = (tgt : Int)) (kk : Ex X Post k j n w tgt L st) : Ex X Post k j n w pc L st := by
  intro p l e R s m args below meth c H locs Q B D ls hC hR hk hS hL hst
  exact lv_goto hC.1 hC.2.1 hd ht (kk p l e R s m args below meth c H locs Q B D ls hC hR hk hS hL hst)

theorem ex_tableIn {dflt lo hi : Int} {offs : Array Int} {len : Nat} {a off : Int} {tgt : Nat} (hd : decode X.1 pc = .ok (.tableswitch dflt lo hi offs, len)) (h1 : lo ≤ a) (h2 : a ≤ hi) (ho : offs[(a - lo).toNat]? = some off) (ht : (pc : Int) + off = (tgt : Int)) (kk : Ex X Post k j n w tgt L st) : Ex X Post k j n w pc L (xi a :: st) := by
  intro p l e R s m args below meth c H locs Q B D ls hC hR hk hS hL hst
  have e9 := i32_to (hst1 hst)
  exact lv_tableIn hC.1 hC.2.1 hd (by rw [e9]; omega) (by rw [e9]; omega) (by rw [e9]; exact ho) ht (kk p l e R s m args below meth c H locs Q B D ls hC hR hk hS hL (hst2 hst))
theorem ex_tableOut {dflt lo hi : Int} {offs : Array Int} {len : Nat} {a : Int} {tgt : Nat} (hd : decode X.1 pc = .ok (.tableswitch dflt lo hi offs, len)) (h : a < lo ∨ hi < a) (ht : (pc : Int) + dflt = (tgt : Int)) (kk : Ex X Post k j n w tgt L st) : Ex X Post k j n w pc L (xi a :: st) := by
  intro p l e R s m args below meth c H locs Q B D ls hC hR hk hS hL hst
  have e9 := i32_to (hst1 hst)
  exact lv_tableOut hC.1 hC.2.1 hd (by rw [e9]; exact h) ht (kk p l e R s m args below meth c H locs Q B D ls hC hR hk hS hL (hst2 hst))
end RULES
end
section
/-! ===== cells ===== -/
theorem cl_all {ci : Nat} {C : String} {T : u_T} {N : Nat} (h : vwCl[ci]? = some (C, T, N)) : ∃ ty0 : Nat → FieldType, (∀ w ∈ u_ws C T N, w ∈ xWS) ∧ (∀ k, k < N → parseFieldDescriptor (T k).2.2.1 = some (ty0 k)) ∧ (∀ a, a < N → ∀ b, b < N → a ≠ b → (T a).2.1 ≠ (T b).2.1) := by
  match ci, h with
  | 0, h => cases h; exact ⟨tyX0, iwX0, tyX0_ok, nmX0⟩
  | 1, h => cases h; exact ⟨tyX1, iwX1, tyX1_ok, nmX1⟩
  | 2, h => cases h; exact ⟨tyX2, iwX2, tyX2_ok, nmX2⟩
  | 3, h => cases h; exact ⟨tyX3, iwX3, tyX3_ok, nmX3⟩
  | 4, h => cases h; exact ⟨tyX4, iwX4, tyX4_ok, nmX4⟩
  | 5, h => cases h; exact ⟨tyX5, iwX5, tyX5_ok, nmX5⟩
  | 6, h => cases h; exact ⟨tyX6, iwX6, tyX6_ok, nmX6⟩
  | 7, h => cases h; exact ⟨tyX7, iwX7, tyX7_ok, nmX7⟩
  | ci + 8, h => simp [vwCl] at h
theorem fOK_ci {own : String} {idx ci q : Nat} (h : fOK own idx ci q) : ci ≠ 99 := by
  obtain ⟨C, T, N, h1, -⟩ := h
  intro e
  subst e
  simp [vwCl] at h1
theorem ciZ {ci : Nat} {fs : List xV} {w : xW} {r : Nat} (hw : w r = xO ci fs) (h : ci ≠ 99) : w r ≠ xZ := by
  rw [hw]; intro q; cases q; exact h rfl
theorem arZ {N : Nat} {f : (Nat → Int) ⊕ (Nat → Option Nat)} {w : xW} {r : Nat} (hw : w r = .inl (N, f)) : w r ≠ xZ := by
  rw [hw]; intro q; cases q
theorem va_K.plus {D : va_G} {s : State} (h : va_K D vwCl [] s) {cA : ClassId} {ty : FieldType} (h2 : ArrOfT s cA ty ∧ va_RA s cA ty) : va_K D vwCl [(cA, ty)] s := by
  refine ⟨h.1, fun k q hk => ?_⟩
  have hz : k < 1 := (List.getElem?_eq_some_iff.mp hk).1
  rw [show k = 0 by omega] at hk
  cases hk
  exact h2
theorem va_K.plus2 {D : va_G} {s : State} (h : va_K D vwCl [] s) {cA cB : ClassId} {ty : FieldType} (h2 : ArrOfT s cA ty ∧ va_RA s cA ty) (h3 : ArrOfT s cB ty ∧ va_RA s cB ty) : va_K D vwCl [(cA, ty), (cB, ty)] s := by
  refine ⟨h.1, fun k q hk => ?_⟩
  have hz : k < 2 := (List.getElem?_eq_some_iff.mp hk).1
  rcases (show k = 0 ∨ k = 1 by omega) with e | e
  · subst e; cases hk; exact h2
  · subst e; cases hk; exact h3
section RULES
variable {X : xC} {Post : xP} {k j n : Nat} {w : xW} {pc : Nat} {L : List (Option xV)} {st : List xV}
theorem ex_getfield {idx ci q r : Nat} {fs : List xV} {v : xV} (hd : decode X.1 pc = .ok (.getfield idx, 3)) (hf : fOK X.2.1 idx ci q) (hw : w r = xO ci fs) (hv : fs[q]? = some v) (kk : Ex X Post k j n w (pc + 3) L (v :: st)) : Ex X Post k j n w pc L (xr r :: st) := by
  intro p l e R s m args below meth c H locs Q B D ls hC hR hk hS hL hst
  have hin : inV v := hR.inO hw (fOK_ci hf) v (List.mem_of_getElem? hv)
  have hr : r < n := hR.lt (ciZ hw (fOK_ci hf))
  obtain ⟨-, ka, hP, -⟩ := id hR
  obtain ⟨C, T, N, hc, hq, hC0, hlk⟩ := hf
  obtain ⟨ty0, hin0, -, -⟩ := cl_all hc
  have he : (wsOf B ka n w)[r]? = some (B + r, .inr (ci, fs.map (rv B))) := by rw [wsOf_get hr, hw]; rfl
  have hv2 : (fs.map (rv B))[q]? = some (rv B v) := by rw [List.getElem?_map, hv]; rfl
  have K := kk p l e R s m args below meth c H locs Q B D ls hC hR hk hS hL (hstc hin (hst2 hst))
  have hsame : ∀ x, s.fieldFound? (T q).1 (T q).2.1 (T q).2.2.1 = some x → s.fieldFound? C (T q).2.1 (T q).2.2.1 = some x := by rw [hC0]; exact fun _ h => h
  rcases hlk with hl | ⟨host, hl⟩
  · exact va_get (D := D) hC.1 hC.2.1 hC.2.2.2.1 hin0 hC.2.2.1 hC.2.2.2.2.1 hP r he hc q hq (hC.2.2.2.1 _ hl) hsame hv2 hd K
  · exact va_getN (D := D) hC.1 hC.2.1 hC.2.2.2.1 hin0 hC.2.2.1 hC.2.2.2.2.1 hP r he hc q hq (va_Nw.use rfl (hC.2.2.2.2.2.1 _ hl rfl)) hsame hv2 hd K

theorem ex_putA {idx ci q r : Nat} {fs : List xV} {v : xV} {ty : FieldType} (hd : decode X.1 pc = .ok (.putfield idx, 3)) (hf : fOK X.2.1 idx ci q) (hT : ∀ C T N, vwCl[ci]? = some (C, T, N) → parseFieldDescriptor (T q).2.2.1 = some ty ∧ (T q).2.2.2 = false) (hw : w r = xO ci fs) (hl : q < fs.length) (hn : ∀ B, narrow ty (rv B v) = rv B v) (hfit : ∀ B, fits ty (rv B v) = true) (kk : Ex X Post k j n (va_up w r (xO ci (fs.set q v))) (pc + 3) L st) : Ex X Post k j n w pc L (v :: xr r :: st) := by
  intro p l e R s m args below meth c H locs Q B D ls hC hR hk hS hL hst
  have hr : r < n := hR.lt (ciZ hw (fOK_ci hf))
  have hin := hR.inO hw (fOK_ci hf)
  obtain ⟨hz2, ka, hP, h4⟩ := id hR
  obtain ⟨C, T, N, hc, hq, hC0, hlk⟩ := hf
  obtain ⟨hty, hfin⟩ := hT C T N hc
  obtain ⟨ty0, hin0, ht0, hnm⟩ := cl_all hc
  have he : (wsOf B ka n w)[r]? = some (B + r, .inr (ci, fs.map (rv B))) := by rw [wsOf_get hr, hw]; rfl
  have hsame : ∀ x, s.fieldFound? (T q).1 (T q).2.1 (T q).2.2.1 = some x → s.fieldFound? C (T q).2.1 (T q).2.2.1 = some x := by rw [hC0]; exact fun _ h => h
  have K : ∀ (H1 : Heap) (locs1 : List Loc), va_P D vwCl ((wsOf B ka n w).set r (B + r, .inr (ci, (fs.map (rv B)).set q (rv B v)))) H1 → va_D (fun q => B ≤ q) ((wsOf B ka n w).set r (B + r, .inr (ci, (fs.map (rv B)).set q (rv B v)))) → va_S (fun q => B ≤ q) s.heap H1 locs1 → W p l e R s m args below meth c H1 locs1 k j Q (F0 m (pc + 3) ls (st.map (rv B))) := by
    intro H1 locs1 hP1 _ hS1
    refine kk p l e R s m args below meth c H1 locs1 Q B D ls hC (Rel.set (ka := ka) hr hz2 ?_ h4 ?_) hk hS1 hL (hst2 (hst2 hst))
    · show va_P D vwCl ((wsOf B ka n w).set r (B + r, .inr (ci, (fs.set q v).map (rv B)))) H1
      rw [List.map_set]
      exact hP1
    · intro u hu
      rcases List.mem_or_eq_of_mem_set hu with h | h
      · exact hin u h
      · rw [h]; exact hst1 hst
  rcases hlk with hlk | ⟨host, hlk⟩
  · exact va_put (D := D) hC.1 hC.2.1 hC.2.2.2.1 hin0 ty0 ht0 hnm hC.2.2.1 hC.2.2.2.2.1 hP wsOf_D hS r he hc q hq (hC.2.2.2.1 _ hlk) hsame hfin hty (hn B) (hfit B) (by rw [List.length_map]; exact hl) hd K
  · exact va_putN (D := D) hC.1 hC.2.1 hC.2.2.2.1 hin0 ty0 ht0 hnm hC.2.2.1 hC.2.2.2.2.1 hP wsOf_D hS r he hc q hq (va_Nw.use rfl (hC.2.2.2.2.2.1 _ hlk rfl)) hsame hfin hty (hn B) (hfit B) (by rw [List.length_map]; exact hl) hd K

theorem ex_iaload {r N : Nat} {f : Nat → Int} {a : Int} (hd : decode X.1 pc = .ok (.iaload, 1)) (hw : w r = xA N f) (h0 : 0 ≤ a) (h1 : a < N) (kk : Ex X Post k j n w (pc + 1) L (xi (f a.toNat) :: st)) : Ex X Post k j n w pc L (xi a :: xr r :: st) := by
  intro p l e R s m args below meth c H locs Q B D ls hC hR hk hS hL hst
  have hr : r < n := hR.lt (arZ hw)
  have hin := hR.inA hw
  obtain ⟨-, ka, hP, h4⟩ := id hR
  have h5 := h4 r hr
  rw [hw] at h5
  have he : (wsOf B ka n w)[r]? = some (B + r, .inl (ka r, N, .inl (fun j => Int32.ofInt (f j)))) := by rw [wsOf_get hr, hw]; rfl
  have K := kk p l e R s m args below meth c H locs Q B D ls hC hR hk hS hL (hstc (hin _) (hst2 (hst2 hst)))
  refine va_iald (D := D) hC.1 hC.2.1 (hC.2.2.2.2.1.plus h5.1) hP r 0 he rfl (i32_in (hst1 hst) h0 h1) hd ?_
  rw [i32_nat (hst1 hst) h0]
  exact K
theorem ex_iastore {r N : Nat} {f : Nat → Int} {a x : Int} (hd : decode X.1 pc = .ok (.iastore, 1)) (hw : w r = xA N f) (h0 : 0 ≤ a) (h1 : a < N) (kk : Ex X Post k j n (va_up w r (xA N (va_up f a.toNat x))) (pc + 1) L st) : Ex X Post k j n w pc L (xi x :: xi a :: xr r :: st) := by
  intro p l e R s m args below meth c H locs Q B D ls hC hR hk hS hL hst
  have hr : r < n := hR.lt (arZ hw)
  have hin := hR.inA hw
  obtain ⟨hz2, ka, hP, h4⟩ := id hR
  have h5 := h4 r hr
  rw [hw] at h5
  have he : (wsOf B ka n w)[r]? = some (B + r, .inl (ka r, N, .inl (fun j => Int32.ofInt (f j)))) := by rw [wsOf_get hr, hw]; rfl
  refine va_iast (D := D) hC.1 hC.2.1 (hC.2.2.2.2.1.plus h5.1) hP wsOf_D hS r 0 he rfl (i32_in (hst1 (hst2 hst)) h0 h1) hd (fun H1 locs1 hP1 _ hS1 => ?_)
  rw [i32_nat (hst1 (hst2 hst)) h0] at hP1
  refine kk p l e R s m args below meth c H1 locs1 Q B D ls hC (Rel.set (ka := ka) hr hz2 ?_ h4 ?_) hk hS1 hL (hst2 (hst2 (hst2 hst)))
  · have e1 : upd (fun j => Int32.ofInt (f j)) a.toNat (Int32.ofInt x) = fun j => Int32.ofInt (va_up f a.toNat x j) := by
      funext q
      by_cases h : q = a.toNat <;> simp [upd, va_up, h]
    rw [e1] at hP1
    exact hP1
  · refine ⟨h5.1, fun q => ?_⟩
    by_cases h : q = a.toNat
    · simp only [va_up, h, if_true]; exact hst1 hst
    · simp only [va_up, h, if_false]; exact hin q
theorem ex_aaload {r N v : Nat} {g : Nat → Option Nat} {a : Int} (hd : decode X.1 pc = .ok (.aaload, 1)) (hw : w r = xQ N g) (h0 : 0 ≤ a) (h1 : a < N) (hg : g a.toNat = some v) (kk : Ex X Post k j n w (pc + 1) L (xr v :: st)) : Ex X Post k j n w pc L (xi a :: xr r :: st) := by
  intro p l e R s m args below meth c H locs Q B D ls hC hR hk hS hL hst
  have hr : r < n := hR.lt (arZ hw)
  obtain ⟨-, ka, hP, h4⟩ := id hR
  have h5 := h4 r hr
  rw [hw] at h5
  have he : (wsOf B ka n w)[r]? = some (B + r, .inl (ka r, N, .inr (.inr (.inr (.inr (fun j => (g j).map (fun k => B + k))))))) := by rw [wsOf_get hr, hw]; rfl
  have K := kk p l e R s m args below meth c H locs Q B D ls hC hR hk hS hL (hstc (show inV (xr v) from trivial) (hst2 (hst2 hst)))
  refine va_aldq (D := D) (C := RX2) hC.1 hC.2.1 (hC.2.2.2.2.1.plus h5) hP r 0 he rfl (i32_in (hst1 hst) h0 h1) hd ?_
  rw [i32_nat (hst1 hst) h0, hg]
  exact K
theorem ex_aastore {r N v : Nat} {vs : List xV} {g : Nat → Option Nat} {a : Int} (hd : decode X.1 pc = .ok (.aastore, 1)) (hw : w r = xQ N g) (hv : w v = xO 2 vs) (h0 : 0 ≤ a) (h1 : a < N) (kk : Ex X Post k j n (va_up w r (xQ N (va_up g a.toNat (some v)))) (pc + 1) L st) : Ex X Post k j n w pc L (xr v :: xi a :: xr r :: st) := by
  intro p l e R s m args below meth c H locs Q B D ls hC hR hk hS hL hst
  have hr : r < n := hR.lt (arZ hw)
  have hvn : v < n := hR.lt (ciZ hv (by decide))
  obtain ⟨hz2, ka, hP, h4⟩ := id hR
  have h5 := h4 r hr
  rw [hw] at h5
  have he : (wsOf B ka n w)[r]? = some (B + r, .inl (ka r, N, .inr (.inr (.inr (.inr (fun j => (g j).map (fun k => B + k))))))) := by rw [wsOf_get hr, hw]; rfl
  have hev : (wsOf B ka n w)[v]? = some (B + v, .inr (2, vs.map (rv B))) := by rw [wsOf_get hvn, hv]; rfl
  refine va_astq (D := D) (r := (RX2, TX2, 3)) hC.1 hC.2.1 (hC.2.2.2.2.1.plus h5) hP wsOf_D hS r 0 v 2 he rfl hev rfl (i32_in (hst1 (hst2 hst)) h0 h1) hd (fun H1 locs1 hP1 _ hS1 => ?_)
  rw [i32_nat (hst1 (hst2 hst)) h0] at hP1
  refine kk p l e R s m args below meth c H1 locs1 Q B D ls hC (Rel.set (ka := ka) hr hz2 ?_ h4 h5) hk hS1 hL (hst2 (hst2 (hst2 hst)))
  have e1 : va_up (fun j => (g j).map (fun k => B + k)) a.toNat (some (B + v)) = fun j => (va_up g a.toNat (some v) j).map (fun k => B + k) := by
    funext q
    by_cases h : q = a.toNat <;> simp [va_up, h]
  rw [e1] at hP1
  exact hP1
theorem ex_alen {r N : Nat} {f : Nat → Int} (hd : decode X.1 pc = .ok (.arraylength, 1)) (hw : w r = xA N f) (hN : N < 2147483648) (kk : Ex X Post k j n w (pc + 1) L (xi N :: st)) : Ex X Post k j n w pc L (xr r :: st) := by
  intro p l e R s m args below meth c H locs Q B D ls hC hR hk hS hL hst
  have hr : r < n := hR.lt (arZ hw)
  obtain ⟨-, ka, hP, h4⟩ := id hR
  have h5 := h4 r hr
  rw [hw] at h5
  have he : (wsOf B ka n w)[r]? = some (B + r, .inl (ka r, N, .inl (fun j => Int32.ofInt (f j)))) := by rw [wsOf_get hr, hw]; rfl
  have K := kk p l e R s m args below meth c H locs Q B D ls hC hR hk hS hL (hstc (by show inI N; unfold inI; omega) (hst2 hst))
  exact va_alen (D := D) (v := Int32.ofInt N) hC.1 hC.2.1 (hC.2.2.2.2.1.plus h5.1) hP r 0 he rfl (by apply Int32.toInt_inj.mp; show (Int32.ofNat N).toInt = _; rw [Int32.toInt_ofNat_small (by omega), i32_to (by unfold inI; omega)]) hd K
theorem ex_alenQ {r N : Nat} {g : Nat → Option Nat} (hd : decode X.1 pc = .ok (.arraylength, 1)) (hw : w r = xQ N g) (hN : N < 2147483648) (kk : Ex X Post k j n w (pc + 1) L (xi N :: st)) : Ex X Post k j n w pc L (xr r :: st) := by
  intro p l e R s m args below meth c H locs Q B D ls hC hR hk hS hL hst
  have hr : r < n := hR.lt (arZ hw)
  obtain ⟨-, ka, hP, h4⟩ := id hR
  have h5 := h4 r hr
  rw [hw] at h5
  have he : (wsOf B ka n w)[r]? = some (B + r, .inl (ka r, N, .inr (.inr (.inr (.inr (fun j => (g j).map (fun k => B + k))))))) := by rw [wsOf_get hr, hw]; rfl
  have K := kk p l e R s m args below meth c H locs Q B D ls hC hR hk hS hL (hstc (by show inI N; unfold inI; omega) (hst2 hst))
  exact va_alen (D := D) (v := Int32.ofInt N) hC.1 hC.2.1 (hC.2.2.2.2.1.plus h5) hP r 0 he rfl (by apply Int32.toInt_inj.mp; show (Int32.ofNat N).toInt = _; rw [Int32.toInt_ofNat_small (by omega), i32_to (by unfold inI; omega)]) hd K

theorem ex_putF {idx ci q r : Nat} {fs : List xV} {v : xV} {ty : FieldType} (hd : decode X.1 pc = .ok (.putfield idx, 3)) (hf : fOK X.2.1 idx ci q) (hT : ∀ C T N, vwCl[ci]? = some (C, T, N) → parseFieldDescriptor (T q).2.2.1 = some ty ∧ (T q).2.2.2 = true ∧ (T q).1 = X.2.1) (hnn : ∀ C T N, vwCl[ci]? = some (C, T, N) → ((Cond.fieldLink X.2.1 idx C (T q).2.1 (T q).2.2.1 ∈ xWS) ∨ ∃ host, Cond.fieldLinkNest X.2.1 idx C (T q).2.1 (T q).2.2.1 host ∈ lw_tbl) → Cond.fieldLink X.2.1 idx C (T q).2.1 (T q).2.2.1 ∈ xWS) (hw : w r = xO ci fs) (hl : q < fs.length) (hn : ∀ B, narrow ty (rv B v) = rv B v) (hfit : ∀ B, fits ty (rv B v) = true) (hini : X.2.2.2.2.2.2.1 = true) (kk : Ex X Post k j n (va_up w r (xO ci (fs.set q v))) (pc + 3) L st) : Ex X Post k j n w pc L (v :: xr r :: st) := by
  intro p l e R s m args below meth c H locs Q B D ls hC hR hk hS hL hst
  have hr : r < n := hR.lt (ciZ hw (fOK_ci hf))
  have hin := hR.inO hw (fOK_ci hf)
  obtain ⟨hz2, ka, hP, h4⟩ := id hR
  obtain ⟨C, T, N, hc, hq, hC0, hlk⟩ := hf
  have hlk := hnn C T N hc hlk
  obtain ⟨hty, hfin, hdc⟩ := hT C T N hc
  obtain ⟨ty0, hin0, ht0, hnm⟩ := cl_all hc
  have he : (wsOf B ka n w)[r]? = some (B + r, .inr (ci, fs.map (rv B))) := by rw [wsOf_get hr, hw]; rfl
  have hsame : ∀ x, s.fieldFound? (T q).1 (T q).2.1 (T q).2.2.1 = some x → s.fieldFound? C (T q).2.1 (T q).2.2.1 = some x := by rw [hC0]; exact fun _ h => h
  have K : ∀ (H1 : Heap) (locs1 : List Loc), va_P D vwCl ((wsOf B ka n w).set r (B + r, .inr (ci, (fs.map (rv B)).set q (rv B v)))) H1 → va_D (fun q => B ≤ q) ((wsOf B ka n w).set r (B + r, .inr (ci, (fs.map (rv B)).set q (rv B v)))) → va_S (fun q => B ≤ q) s.heap H1 locs1 → W p l e R s m args below meth c H1 locs1 k j Q (F0 m (pc + 3) ls (st.map (rv B))) := by
    intro H1 locs1 hP1 _ hS1
    refine kk p l e R s m args below meth c H1 locs1 Q B D ls hC (Rel.set (ka := ka) hr hz2 ?_ h4 ?_) hk hS1 hL (hst2 (hst2 hst))
    · show va_P D vwCl ((wsOf B ka n w).set r (B + r, .inr (ci, (fs.set q v).map (rv B)))) H1
      rw [List.map_set]
      exact hP1
    · intro u hu
      rcases List.mem_or_eq_of_mem_set hu with h | h
      · exact hin u h
      · rw [h]; exact hst1 hst
  exact va_putF (D := D) hC.1 hC.2.1 hC.2.2.2.1 hin0 ty0 ht0 hnm hC.2.2.1 hC.2.2.2.2.1 hP wsOf_D hS r he hc q hq (hC.2.2.2.1 _ hlk) hsame hfin (hC.2.2.2.2.2.2.2.2.1 hini) hdc hty (hn B) (hfit B) (by rw [List.length_map]; exact hl) hd K
end RULES
end
section
/-! ===== new cells ===== -/
theorem Rel.push {B : Nat} {D : va_G} {s : State} {n : Nat} {w : xW} {H H1 : Heap} (h : Rel B D s n w H) {cA : ClassId} {e : xE} (o1 : ∀ q, q < B + n → H1[q]? = H[q]?) (hat : va_at D vwCl (B + n, rE B cA e) H1) (he : eOK s cA e) : Rel B D s (n + 1) (va_up w n e) H1 := by
  obtain ⟨h2, ka, hP, h4⟩ := h
  refine ⟨fun i hi => ?_, va_up ka n cA, fun i q hq => ?_, fun i hi => ?_⟩
  · have : i ≠ n := by omega
    simp only [va_up, this, if_false]
    exact h2 i (by omega)
  · obtain ⟨hi, rfl⟩ := wsOf_at hq
    by_cases e1 : i = n
    · subst e1
      simp only [va_up, if_true]
      exact hat
    · simp only [va_up, e1, if_false]
      exact (hP i _ (wsOf_get (by omega))).kept (o1 _ (by show B + i < B + n; omega))
  · by_cases e1 : i = n
    · subst e1; simpa [va_up] using he
    · simp only [va_up, e1, if_false]; exact h4 i (by omega)
theorem xS.push {B : Nat} {s : State} {H H1 : Heap} {locs : List Loc} {n : Nat} (hS : xS B s H locs) (hz : H.size = B + n) (hB : B ≤ s.heap.size) (z1 : H1.size = B + n + 1) (o1 : ∀ q, q < B + n → H1[q]? = H[q]?) : xS B s H1 locs := by
  refine ⟨Nat.le_trans hS.1 (by omega), fun q h1 h2 => ?_, hS.2.2⟩
  have h3 : ¬ B ≤ q := h2
  rw [o1 q (by omega)]
  exact hS.2.1 q h1 h2
def isDef (v : xV) : Bool := match v with
  | .inl _ => true
  | .inr (.inl none) => true
  | _ => false
theorem rv_def {B : Nat} {v : xV} (h : isDef v = true) : rv B v = rv 0 v := by
  rcases v with i | (_ | k) | j | a
  · rfl
  · rfl
  · cases h
  · cases h
  · cases h
theorem W.ofSize {B : Nat} {D : va_G} {u : State} {n : Nat} {w : xW} {H : Heap} {p : Program} {l : Launch} {e : Env} {R : Room} {s : State} {m : MethodId} {args : Array Value} {below : List Frame} {meth : Method} {c : Code} {locs : List Loc} {k j : Nat} {Q : State → Prop} {g : JFrame} (hR : Rel B D u n w H) (hB : B ≤ s.heap.size) (hk : s.heap.size + k = B + n) (h : H.size = B + n → W p l e R s m args below meth c H locs k j Q g) : W p l e R s m args below meth c H locs k j Q g := fun T hT X0 => h (hR.size hB hk X0 hT) T hT X0
section RULES
variable {X : xC} {Post : xP} {k j n : Nat} {w : xW} {pc : Nat} {L : List (Option xV)} {st : List xV}
theorem ex_newarr {a : Int} {N : Nat} (hd : decode X.1 pc = .ok (.newarray .int, 2)) (ha : a = (N : Int)) (hN : N ≤ 100000) (hc : k + 1 ≤ X.2.2.2.2.1) (hs : j + N ≤ X.2.2.2.2.2.1) (kk : Ex X Post (k + 1) (j + N) (n + 1) (va_up w n (xA N (fun _ => 0))) (pc + 2) L (xr n :: st)) : Ex X Post k j n w pc L (xi a :: st) := by
  intro p l e R s m args below meth c H locs Q B D ls hC hR hk hS hL hst
  subst ha
  refine W.ofSize hR hC.2.2.2.2.2.2.2.2.2.1 hk (fun hz => ?_)
  have hi : inI (N : Int) := hst1 hst
  refine va_newaK (atype := .int) (n := Int32.ofInt (N : Int)) (N := N) (h := B + n) (rest := st.map (rv B)) hC.1 hC.2.1 (hC.2.2.2.1 _ w_arrI) rfl hd rfl (by show ¬ Int32.ofInt (N : Int) < Int32.ofInt 0; rw [i32_lt hi (by unfold inI; omega)]; omega) (by rw [i32_nat hi (by omega)]; simp) (by show N * 4 ≤ _; omega) (by have := hC.2.2.2.2.2.2.2.1.2.2.1; omega) (by have := hC.2.2.2.2.2.2.2.1.2.2.2; omega) hz (fun H1 cA e1 z1 o1 hAr hNm => ?_)
  refine kk p l e R s m args below meth c H1 locs Q B D ls hC (hR.push (cA := cA) o1 ?_ ⟨⟨hAr, hNm⟩, fun _ => by show inI 0; unfold inI; omega⟩) (by omega) (hS.push hz hC.2.2.2.2.2.2.2.2.2.1 z1 o1) hL (hstc (show inV (xr n) from trivial) (hst2 hst))
  exact e1
theorem ex_new {idx ci N : Nat} {C : String} {T0 : u_T} {fs : List xV} (ty : Nat → FieldType) (hd : decode X.1 pc = .ok (.new idx, 3)) (hcl : Cond.classLink X.2.1 idx C ∈ xWS) (hin : Cond.instantiable C N ∈ xWS) (hini : Cond.initialized C ∈ xWS) (hci : vwCl[ci]? = some (C, T0, N)) (hty : ∀ k, k < N → parseFieldDescriptor (T0 k).2.2.1 = some (ty k)) (hfs : fs.all isDef = true) (hz0 : ∀ v ∈ fs, inV v) (hfv : ∀ q, q < N → defaultValue (ty q) = vp_V (fs.map (rv 0)) q) (hc : k + 1 ≤ X.2.2.2.2.1) (hs : j + N ≤ X.2.2.2.2.2.1) (kk : Ex X Post (k + 1) (j + N) (n + 1) (va_up w n (xO ci fs)) (pc + 3) L (xr n :: st)) : Ex X Post k j n w pc L st := by
  intro p l e R s m args below meth c H locs Q B D ls hC hR hk hS hL hst
  refine W.ofSize hR hC.2.2.2.2.2.2.2.2.2.1 hk (fun hz => ?_)
  have hKn := hC.2.2.2.2.1.1 ci _ hci
  obtain ⟨ty0, hin0, -, -⟩ := cl_all hci
  refine W.newcK (h := B + n) hC.1 hC.2.1 hC.2.2.1 (hC.2.2.2.1 _ hcl) (hC.2.2.2.1 _ hin) (hC.2.2.2.1 _ hini) rfl hd (by have := hC.2.2.2.2.2.2.2.1.2.2.1; omega) (by have := hC.2.2.2.2.2.2.2.1.2.2.2; omega) hKn.2.1 hz (fun H1 kC hkC e1 z1 o1 => ?_)
  have em : fs.map (rv B) = fs.map (rv 0) := List.map_congr_left (fun v hv => rv_def (List.all_eq_true.mp hfs v hv))
  refine kk p l e R s m args below meth c H1 locs Q B D ls hC (hR.push (cA := 0) o1 ?_ hz0) (by omega) (hS.push hz hC.2.2.2.2.2.2.2.2.2.1 z1 o1) hL (hstc (show inV (xr n) from trivial) hst)
  refine ⟨_, hci, (u_born ty hC.2.2.2.1 hin0 hKn hkC e1 hty).to (fun q hq => ?_)⟩
  show _ = vp_V (fs.map (rv B)) q
  rw [em]
  exact hfv q hq
theorem ex_anew {idx : Nat} {a : Int} {N : Nat} (hd : decode X.1 pc = .ok (.anewarray idx, 3)) (hcl : Cond.classLink X.2.1 idx RX2 ∈ xWS) (ha : a = (N : Int)) (hN : N ≤ 100000) (hc : k + 1 ≤ X.2.2.2.2.1) (hs : j + N ≤ X.2.2.2.2.2.1) (kk : Ex X Post (k + 1) (j + N) (n + 1) (va_up w n (xQ N (fun _ => none))) (pc + 3) L (xr n :: st)) : Ex X Post k j n w pc L (xi a :: st) := by
  intro p l e R s m args below meth c H locs Q B D ls hC hR hk hS hL hst
  subst ha
  refine W.ofSize hR hC.2.2.2.2.2.2.2.2.2.1 hk (fun hz => ?_)
  have hi : inI (N : Int) := hst1 hst
  have hn9 : (Int32.ofInt (N : Int)).toNatClampNeg = N := by rw [i32_nat hi (by omega)]; simp
  refine W.anew (rest := st.map (rv B)) (n := Int32.ofInt (N : Int)) hC.1 hC.2.1 hC.2.2.1 (hC.2.2.2.1 _ hcl) (va_AO.use hC.2.2.2.2.2.2.1) rfl hd rfl (by show ¬ Int32.ofInt (N : Int) < Int32.ofInt 0; rw [i32_lt hi (by unfold inI; omega)]; omega) (by rw [hn9]; omega) (by have := hC.2.2.2.2.2.2.2.1.2.2.1; omega) (by rw [hn9]; have := hC.2.2.2.2.2.2.2.1.2.2.2; omega) (fun cA kA comp f1 f2 f3 f4 => ?_)
  generalize hH1 : H.push ({ cls := cA, slots := Array.replicate (Int32.ofInt (N : Int)).toNatClampNeg .null, vm := .none } : Cell) = H1
  have z1 : H1.size = B + n + 1 := by rw [← hH1, Array.size_push, hz]
  have e1 : H1[B + n]? = some (arrV cA N (fun _ => .null)) := by rw [← hH1, ← hz, Array.getElem?_push_size, ← arrV_new, hn9]
  have o1 : ∀ q : Nat, q < B + n → H1[q]? = H[q]? := fun q hq => by rw [← hH1, Array.getElem?_push, if_neg (by omega)]
  have hAr : ArrOfT s cA (.object RX2) := fun N z => ⟨(fun k h => by cases h), kA, f2, comp, f3⟩
  rw [hn9, hz]
  refine kk p l e R s m args below meth c H1 locs Q B D ls hC (hR.push (cA := cA) o1 ?_ ⟨hAr, kA, comp, f2, f3, f4, f1⟩) (by omega) (hS.push hz hC.2.2.2.2.2.2.2.2.2.1 z1 o1) hL (hstc (show inV (xr n) from trivial) (hst2 hst))
  exact e1
theorem ex_objInit {idx r : Nat} (hd : decode X.1 pc = .ok (.invokespecial idx, 3)) (hlk : lkOK X.2.1 idx objectInit) (hnn : ∀ host, Cond.methodLinkNest X.2.1 idx objectInit host ∉ lw_tbl) (hfr : 1 ≤ X.2.2.1) (hlo : (st.map xcat).sum + 12 ≤ X.2.2.2.1) (kk : Ex X Post k j n w (pc + 3) L st) : Ex X Post k j n w pc L (xr r :: st) := by
  intro p l e R s m args below meth c H locs Q B D ls hC hR hk hS hL hst
  have hl : Cond.methodLink X.2.1 idx objectInit ∈ xWS := by
    rcases hlk with h | ⟨host, h⟩
    · exact h
    · exact absurd h (hnn host)
  have hcs : ((st.map (rv B)).map fun v => v.category).sum = (st.map xcat).sum := by
    rw [List.map_map]
    congr 1
    exact List.map_congr_left (fun v _ => rv_cat B v)
  refine W.objInit hC.1 hC.2.1 hC.2.2.1 (hC.2.2.2.1 _ hl) (hC.2.2.2.1 _ w_oin) (hC.2.2.2.1 _ w_oco) rfl hL.1 rfl hd (by have := hC.2.2.2.2.2.2.2.1.1; omega) (by show 2 * 0 + _ + 12 ≤ _; rw [hcs]; have := hC.2.2.2.2.2.2.2.1.2.1; omega) ?_
  exact kk p l e R s m args below meth c H locs Q B D ls hC hR hk hS hL (hst2 hst)
end RULES

/-! ===== contracts ===== -/
def Pre (B : Nat) (D : va_G) (as : List xV) (n : Nat) (w : xW) (U : State) : Prop := va_K D vwCl [] U ∧ (∀ w ∈ lw_tbl, isNest w = true → va_Nw w U) ∧ va_AO RX2 U ∧ Rel B D U n w U.heap ∧ U.heap.size = B + n ∧ ∀ x ∈ as, inV x
def Qx (B : Nat) (D : va_G) (n : Nat) (Post : xP) : Array Value → State → Outcome → State → Prop := fun _ st oc t => ∃ (v : Option xV) (w : xW), oc = .returned (v.map (rv B)) ∧ Post v w ∧ (∀ x, v = some x → inV x) ∧ Rel B D t n w t.heap ∧ st.heap.size ≤ t.heap.size ∧ ∀ q, q < B → t.heap[q]? = st.heap[q]?
def Ctr (X : xC) (as : List xV) (n : Nat) (w : xW) (Post : xP) : Prop := ∀ (l : Launch) (B : Nat) (D : va_G), Met l X.2.2.2.2.2.2.2.1 (Cond.code X.2.2.2.2.2.2.2.1 X.1 X.2.2.2.2.2.2.2.2.1 X.2.2.2.2.2.2.2.2.2 :: xWS) ({ frames := X.2.2.1, cells := X.2.2.2.2.1, slots := X.2.2.2.2.2.1, locals := X.2.2.2.1 }) (va_Pc (as.map (rv B)) (Pre B D as n w)) (Qx B D (n + X.2.2.2.2.1) Post) X.2.2.2.2.1 X.2.2.2.2.2.1 (fun q => B ≤ q)
def mkC (y : MethodName) (cc : ByteArray) (nL : Nat) (ret : Option FieldType) (fr lo mc ms : Nat) : xC := (cc, y.cls, fr, lo, mc, ms, y.name == "<init>", y, nL, ret)
def okRet (ret : Option FieldType) (v : Option xV) : Prop := match ret, v with
  | none, none => True
  | some .int, some (.inl _) => True
  | some .boolean, some (.inl i) => i = 0 ∨ i = 1
  | some (.object _), some (.inr (.inl (some _))) => True
  | _, _ => False
def inW (w : xW) : Prop := ∀ r, (∀ N f, w r = xA N f → ∀ j, inI (f j)) ∧ (∀ ci fs, w r = xO ci fs → ∀ v ∈ fs, inV v)
theorem Rel.inW {B : Nat} {D : va_G} {s : State} {n : Nat} {w : xW} {H : Heap} (h : Rel B D s n w H) : inW w := by
  refine fun r => ⟨fun N f hw => h.inA hw, fun ci fs hw => ?_⟩
  by_cases e : ci = 99
  · subst e
    rcases Nat.lt_or_ge r n with q | q
    · obtain ⟨-, ka, -, h4⟩ := h
      have := h4 r q
      rw [hw] at this
      exact this
    · have := h.1 r q
      rw [hw] at this
      cases this
      intro v hv; cases hv
  · exact h.inO hw e
theorem entry_args (B : Nat) (as : List xV) (hc : ∀ x ∈ as, xcat x = 1) : ∀ (i : Nat) (q : Nat) (v : xV), as[q]? = some v → (i + q, rv B v) ∈ lv_args i (as.map (rv B)) := by
  induction as with
  | nil => intro i q v h; simp at h
  | cons a as ih =>
    intro i q v h
    have h1 : ¬ (rv B a).category = 2 := by rw [rv_cat, hc a List.mem_cons_self]; decide
    simp only [List.map_cons, lv_args, if_neg h1]
    match q, h with
    | 0, h => cases h; exact List.mem_cons_self
    | q + 1, h =>
      refine List.mem_cons_of_mem _ ?_
      have := ih (fun x hx => hc x (List.mem_cons_of_mem _ hx)) (i + 1) q v (by simpa using h)
      rwa [show i + (q + 1) = i + 1 + q by omega]
theorem lg_len (B : Nat) (as : List xV) (hc : ∀ x ∈ as, xcat x = 1) : (lg_sl (as.map (rv B))).length = as.length := by
  induction as with
  | nil => rfl
  | cons a as ih =>
    have h1 : ¬ (rv B a).category = 2 := by rw [rv_cat, hc a List.mem_cons_self]; decide
    have := ih (fun x hx => hc x (List.mem_cons_of_mem _ hx))
    simp only [lg_sl, List.map_cons, List.flatMap_cons, if_neg h1, List.length_append, List.length_cons, List.length_nil] at this ⊢
    omega
def ent (nL : Nat) (as : List xV) : List (Option xV) := as.map some ++ List.replicate (nL - as.length) none
theorem ent_get {nL : Nat} {as : List xV} {i : Nat} {v : xV} (h : (ent nL as)[i]? = some (some v)) : as[i]? = some v := by
  unfold ent at h
  by_cases q : i < as.length
  · rw [List.getElem?_append_left (by simpa using q), List.getElem?_map] at h
    obtain ⟨a, h1, h2⟩ := Option.map_eq_some_iff.mp h
    cases h2; exact h1
  · rw [List.getElem?_append_right (by simpa using q)] at h
    have := List.mem_of_getElem? h
    have := (List.mem_replicate.mp this).2
    cases this
set_option maxHeartbeats 1000000 in
/-- a contract out of a walk -/
theorem Ctr.of {y : MethodName} {cc : ByteArray} {nL : Nat} {ret : Option FieldType} {np fr lo mc ms : Nat} {as : List xV} {n : Nat} {w : xW} {Post : xP} (hy : yOK y cc nL ret np) (hcat : as.all (fun x => xcat x == 1) = true) (hlen : as.length ≤ nL) (hP : ∀ v w', Post v w' → okRet ret v) (h : (∀ x ∈ as, inV x) → inW w → Ex (mkC y cc nL ret fr lo mc ms) Post 0 0 n w 0 (ent nL as) []) : Ctr (mkC y cc nL ret fr lo mc ms) as n w Post := by
  intro l B D
  have hcat : ∀ x ∈ as, xcat x = 1 := fun x hx => by simpa using List.all_eq_true.mp hcat x hx
  show Met l y (Cond.code y cc nL ret :: xWS) ({ frames := fr, cells := mc, slots := ms, locals := lo }) (va_Pc (as.map (rv B)) (Pre B D as n w)) (Qx B D (n + mc) Post) mc ms (fun q => B ≤ q)
  refine MetFree.of_bodySF (code := cc) (maxLocals := nL) (ret := ret) hy.2.2.1 ?_ ?_
  · intro args s m h hn
    obtain ⟨meth, c, h1, h2, h3, h4, h5, h6, -, -⟩ := Cond.code_spec hn (atoms_spec (ws := Cond.code y cc nL ret :: xWS) h _ List.mem_cons_self)
    exact ⟨meth, c, h1, h2, h3, h4, h5, h6⟩
  · intro p e s m args below meth c s₁ BL hml hP0 _
    obtain ⟨rfl, hK, hN, hAO, hR, hz, hin⟩ := hP0
    have hh0 : s₁.heap = s.heap := by rw [BL.state]; rfl
    have hts0 := atoms_spec (ws := Cond.code y cc nL ret :: xWS) BL.pre
    have hr := BL.returns
    have hlocks := BL.notSynchronized
    have hX : Cx (mkC y cc nL ret fr lo mc ms) Post p l e ({ frames := fr, cells := mc, slots := ms, locals := lo }) s m (as.map (rv B)).toArray below meth c (MQ below (Qx B D (n + mc) Post) (as.map (rv B)).toArray s mc ms (fun q => B ≤ q)) B D := by
      refine ⟨BL.exec, BL.bytes, findClass_of_methodNamed BL.named, fun w hw => hts0 w (List.mem_cons_of_mem _ hw), hK, hN, hAO, ⟨Nat.le_refl _, Nat.le_refl _, Nat.le_refl _, Nat.le_refl _⟩, fun hi => ?_, by omega, ?_⟩
      · have h1 : meth.name = y.name := (name_of_methodNamed BL.named BL.method).1
        rw [h1]
        simpa [mkC] using hi
      · intro v n' w' j H locs pc ls hp hRel hk hS hv hj hret
        have hn' : n' = n + mc := by
          have hk : s.heap.size + mc = B + n' := hk
          omega
        subst hn'
        have hQ : ∀ t : State, t.heap = H → s.WarmedH t.vm → Qx B D (n + mc) Post (as.map (rv B)).toArray s (.returned (v.map (rv B))) t := by
          intro t ht hW
          refine ⟨v, w', rfl, hp, hv, by rw [ht]; exact hRel.moved hW.alike, by rw [ht]; exact hS.1, fun q hq => ?_⟩
          rw [ht]
          exact hS.2.1 q (by omega) (by show ¬ B ≤ q; omega)
        refine W.widen (k := mc) (n := ms) (Nat.le_refl _) hj ?_
        have hok := hP v w' hp
        match ret, v, hr, hok, hQ, hret with
        | none, none, hr, _, hQ, hret => exact W.vret BL.exec BL.bytes hr hQ hS.2.2 hret
        | some .int, some (.inl i), hr, _, hQ, hret => exact W.iret BL.exec BL.bytes hr hQ hS.2.2 hret
        | some .boolean, some (.inl i), hr, hb, hQ, hret =>
          refine W.zret BL.exec BL.bytes hr ?_ hQ hS.2.2 hret
          rcases hb with rfl | rfl <;> rfl
        | some (.object C), some (.inr (.inl (some r))), hr, _, hQ, hret => exact W.aret BL.exec BL.bytes hr (Or.inl ⟨C, rfl⟩) (Or.inr ⟨_, rfl⟩) hQ hS.2.2 hret
    have hl := lv_entry (as.map (rv B)) (n := nL) (by rw [lg_len B as hcat]; exact hlen)
    have hL : hasL B c ((lg_sl (as.map (rv B)) ++ List.replicate (nL - (lg_sl (as.map (rv B))).length) Slot.unset).toArray) (ent nL as) := by
      have hle : (ent nL as).length = nL := by simp [ent]; omega
      refine ⟨by rw [hl.1, hml], ⟨by rw [hle]; exact hl.1, hl.2.1, ?_⟩, ?_⟩
      · rintro ⟨i, x⟩ hq
        obtain ⟨v, h1, rfl⟩ := mem_prL.mp hq
        have h2 := entry_args B as hcat 0 i v (ent_get h1)
        rw [Nat.zero_add] at h2
        exact hl.2.2 _ h2
      · intro v hv
        obtain ⟨i, hi⟩ := List.mem_iff_getElem?.mp hv
        exact hin v (List.mem_of_getElem? (ent_get hi))
    have K := h hin hR.inW p l e _ s m _ below meth c s.heap [] _ B D _ hX hR hz va_S.rf hL (fun x hx => by cases hx)
    rw [List.map_nil, ← lg_entry_eq] at K
    obtain ⟨t, a1, o, b1, b2, b3⟩ := K s₁ hh0 (Stand.of_body BL)
    exact ⟨t, o, a1, b1, b2, ⟨b3.1, b3.2⟩⟩
end
section
/-! ===== calls ===== -/
def pI (P : Int → xW → Prop) : xP := fun v w => ∃ i, v = some (xi i) ∧ P i w
def pZ (P : Int → xW → Prop) : xP := fun v w => ∃ i, v = some (xi i) ∧ (i = 0 ∨ i = 1) ∧ P i w
def pV (P : xW → Prop) : xP := fun v w => v = none ∧ P w
def pR (P : Nat → xW → Prop) : xP := fun v w => ∃ r, v = some (xr r) ∧ P r w
theorem okI {P : Int → xW → Prop} : ∀ v w, pI P v w → okRet (some .int) v := by rintro v w ⟨i, rfl, -⟩; trivial
theorem okZ {P : Int → xW → Prop} : ∀ v w, pZ P v w → okRet (some .boolean) v := by rintro v w ⟨i, rfl, h, -⟩; exact h
theorem okV {P : xW → Prop} : ∀ v w, pV P v w → okRet none v := by rintro v w ⟨rfl, -⟩; trivial
theorem okR {P : Nat → xW → Prop} {C : String} : ∀ v w, pR P v w → okRet (some (.object C)) v := by rintro v w ⟨r, rfl, -⟩; trivial
theorem good_ws {y : MethodName} {cc : ByteArray} {nL : Nat} {ret : Option FieldType} (h : Cond.code y cc nL ret ∈ xWS) : GoodIn xWS (Cond.code y cc nL ret :: xWS) := by
  intro w hw
  have hm : w ∈ xWS := by
    rcases List.mem_cons.mp hw with q | q
    · rw [q]; exact h
    · exact q
  exact ⟨hm, good_of_word (List.mem_filter.mp hm).2⟩
theorem Pre.blind {B : Nat} {D : va_G} {as : List xV} {n : Nat} {w : xW} : FrameBlind (va_Pc (as.map (rv B)) (Pre B D as n w)) := by
  rintro a U g mk ⟨h0, h1, h2, h3, h4, h5, h6⟩
  exact ⟨h0, va_K.moved (u := U) (U := U.calling g mk a) (Vm.Alike.refl U.vm) h1, fun w hw hn => va_Nw.same (by cases w <;> first | rfl | cases hn) (u := U) (U := U.calling g mk a) rfl (h2 w hw hn), h3, h4.moved (U := U.calling g mk a) (Vm.Alike.refl U.vm), h5, h6⟩
theorem cat_sum (B : Nat) (st : List xV) : ((st.map (rv B)).map fun v => v.category).sum = (st.map xcat).sum := by
  rw [List.map_map]
  congr 1
  exact List.map_congr_left (fun v _ => rv_cat B v)
/-- what the callee is given -/
theorem Cx.pre {X : xC} {Post : xP} {p : Program} {l : Launch} {e : Env} {R : Room} {s : State} {m : MethodId} {args : Array Value} {below : List Frame} {meth : Method} {c : Code} {Q : State → Prop} {B : Nat} {D : va_G} (hC : Cx X Post p l e R s m args below meth c Q B D) {n : Nat} {w : xW} {H : Heap} {as : List xV} (hR : Rel B D s n w H) (hz : H.size = B + n) (hin : ∀ x ∈ as, inV x) : ∀ U : State, U.heap = H → s.WarmedH U.vm → va_Pc (as.map (rv B)) (Pre B D as n w) (as.map (rv B)).toArray U := fun U hU hW =>
  ⟨rfl, va_K.moved hW.alike hC.2.2.2.2.1, fun w hw hn => nest_warm hn hW (hC.2.2.2.2.2.1 w hw hn), hC.2.2.2.2.2.2.1.moved hW.alike, by rw [hU]; exact hR.moved hW.alike, by rw [hU]; exact hz, hin⟩
/-- behind a call -/
theorem ex_behind {X : xC} {Post : xP} {p : Program} {l : Launch} {e : Env} {R : Room} {s : State} {m : MethodId} {args : Array Value} {below : List Frame} {meth : Method} {c : Code} {Q : State → Prop} {B : Nat} {D : va_G} (hC : Cx X Post p l e R s m args below meth c Q B D) {k j n mc ms : Nat} {H : Heap} {locs : List Loc} {ls : Array Slot} {L : List (Option xV)} {pc : Nat} {st0 : List Value} {rest : List xV} {PostY : xP} {a : Array Value} (hk : s.heap.size + k = B + n) (hS : xS B s H locs) (hL : hasL B c ls L) (hst : ∀ x ∈ rest, inV x)
    (hr : va_Run p l e R s m args below meth c H locs k j mc ms (F0 m pc ls st0) (rest.map (rv B)) (Qx B D (n + mc) PostY a) (fun q => B ≤ q))
    (kk : ∀ (v : Option xV) (w' : xW), PostY v w' → Ex X Post (k + mc) (j + ms) (n + mc) w' (pc + 3) L (v.toList ++ rest)) : W p l e R s m args below meth c H locs k j Q (F0 m pc ls st0) := by
  intro T hT X0
  obtain ⟨v, st₀, t, T', Lq, h0, X', hLq, e1, e2, ⟨v', w', hv, hp, hin, hRel, hz, hb⟩, st⟩ := hr T hT X0
  cases hv
  rw [h0] at hz hb
  have hal : s.vm.Alike t.vm := by rw [← e2]; exact X'.warmed.alike
  have K := kk v' w' hp p l e R s m args below meth c T'.heap (locs ++ Lq) Q B D ls hC (by rw [e1]; exact hRel.moved hal.symm) (by omega)
    ⟨Nat.le_trans hS.1 (by rw [e1]; exact hz), fun q h1 h2 => by
      have h3 : ¬ B ≤ q := h2
      rw [e1, hb q (by omega)]; exact hS.2.1 q h1 h2, fun q hq => by
      rcases List.mem_append.mp hq with h | h
      · exact hS.2.2 q h
      · exact hLq q h⟩ hL (fun x hx => by
      rcases List.mem_append.mp hx with h | h
      · cases v' with
        | none => cases h
        | some u => exact hin x (by rw [List.mem_singleton.mp h])
      · exact hst x h)
  obtain ⟨t2, a1, b1⟩ := K T' rfl X'
  refine ⟨t2, st t2 ?_, b1⟩
  have em : (v'.toList ++ rest).map (rv B) = (v'.map (rv B)).toList ++ rest.map (rv B) := by
    cases v' <;> simp
  rw [em] at a1
  exact a1
section RULES
variable {X : xC} {Post : xP} {k j n : Nat} {w : xW} {pc : Nat} {L : List (Option xV)} {st : List xV}

/-- the top of the stack is within its range -/
theorem ex_inI {i : Int} (kk : inI i → Ex X Post k j n w pc L (xi i :: st)) : Ex X Post k j n w pc L (xi i :: st) := by
  intro p l e R s m args below meth c H locs Q B D ls hC hR hk hS hL hst
  exact kk (hst1 hst) p l e R s m args below meth c H locs Q B D ls hC hR hk hS hL hst
/-- what the world holds is within its range -/
theorem ex_inW (kk : inW w → Ex X Post k j n w pc L st) : Ex X Post k j n w pc L st := by
  intro p l e R s m args below meth c H locs Q B D ls hC hR hk hS hL hst
  exact kk hR.inW p l e R s m args below meth c H locs Q B D ls hC hR hk hS hL hst
theorem ex_ret {v : Option xV} (hd : retI X.1 pc v) (hp : Post v w) (hk9 : k = X.2.2.2.2.1) (hj : j ≤ X.2.2.2.2.2.1) : Ex X Post k j n w pc L v.toList := by
  intro p l e R s m args below meth c H locs Q B D ls hC hR hk hS hL hst
  subst hk9
  exact hC.2.2.2.2.2.2.2.2.2.2 v n w j H locs pc ls hp hR hk hS (fun x hx => hst x (by rw [hx]; exact List.mem_singleton.mpr rfl)) hj hd
theorem ex_iret {i : Int} {P : Int → xW → Prop} (hd : decode X.1 pc = .ok (.ireturn, 1)) (hp : P i w) (hk9 : k = X.2.2.2.2.1) (hj : j ≤ X.2.2.2.2.2.1) : Ex X (pI P) k j n w pc L [xi i] := ex_ret (v := some (xi i)) hd ⟨i, rfl, hp⟩ hk9 hj
theorem ex_zret {i : Int} {P : Int → xW → Prop} (hd : decode X.1 pc = .ok (.ireturn, 1)) (hp : (i = 0 ∨ i = 1) ∧ P i w) (hk9 : k = X.2.2.2.2.1) (hj : j ≤ X.2.2.2.2.2.1) : Ex X (pZ P) k j n w pc L [xi i] := ex_ret (v := some (xi i)) hd ⟨i, rfl, hp.1, hp.2⟩ hk9 hj
theorem ex_vret {P : xW → Prop} (hd : decode X.1 pc = .ok (.return_, 1)) (hp : P w) (hk9 : k = X.2.2.2.2.1) (hj : j ≤ X.2.2.2.2.2.1) : Ex X (pV P) k j n w pc L [] := ex_ret (v := none) hd ⟨rfl, hp⟩ hk9 hj
theorem ex_aret {r : Nat} {P : Nat → xW → Prop} (hd : decode X.1 pc = .ok (.areturn, 1)) (hp : P r w) (hk9 : k = X.2.2.2.2.1) (hj : j ≤ X.2.2.2.2.2.1) : Ex X (pR P) k j n w pc L [xr r] := ex_ret (v := some (xr r)) hd ⟨r, rfl, hp⟩ hk9 hj

theorem ex_callV {y : MethodName} {cc : ByteArray} {nL : Nat} {ret : Option FieldType} {np fr lo mc ms : Nat} {idx ci r N : Nat} {T0 : u_T} {as rest fs : List xV} {PostY : xP} (hd : decode X.1 pc = .ok (.invokevirtual idx, 3)) (hc : Ctr (mkC y cc nL ret fr lo mc ms) (xr r :: as) n w PostY) (hlk : lkOK X.2.1 idx y) (hy : yOK y cc nL ret np) (hv : vOK y) (hw : w r = xO ci fs) (hci : vwCl[ci]? = some (y.cls, T0, N)) (hn : as.length = np) (hst0 : st = as.reverse ++ xr r :: rest) (hcat : (rest.map xcat).sum ≤ 8) (hroom : fr + 1 ≤ X.2.2.1 ∧ 8 + (nL + 11) + lo ≤ X.2.2.2.1) (hcell : k + mc ≤ X.2.2.2.2.1 ∧ j + ms ≤ X.2.2.2.2.2.1) (kk : ∀ (v : Option xV) (w2 : xW), PostY v w2 → Ex X Post (k + mc) (j + ms) (n + mc) w2 (pc + 3) L (v.toList ++ rest)) : Ex X Post k j n w pc L st := by
  intro p l e R s m args below meth c H locs Q B D ls hC hR hk hS hL hst
  subst hst0
  refine W.ofSize hR hC.2.2.2.2.2.2.2.2.2.1 hk (fun hz => ?_)
  have hin : ∀ x ∈ xr r :: as, inV x := hstc trivial (fun x hx => hst x (List.mem_append_left _ (List.mem_reverse.mpr hx)))
  have hrest : ∀ x ∈ rest, inV x := fun x hx => hst x (List.mem_append_right _ (List.mem_cons_of_mem _ hx))
  have hne : ci ≠ 99 := by rintro rfl; simp [vwCl] at hci
  have hr : r < n := hR.lt (ciZ hw hne)
  obtain ⟨-, ka, hP, -⟩ := id hR
  have he : (wsOf B ka n w)[r]? = some (B + r, .inr (ci, fs.map (rv B))) := by rw [wsOf_get hr, hw]; rfl
  have hrec := va_recv hC.2.2.2.2.1 hP hci he
  have hts := hC.2.2.2.1
  have hstk : ((as.reverse ++ xr r :: rest).map (rv B)) = (as.map (rv B)).reverse ++ .ref (B + r) :: rest.map (rv B) := by simp [rv]
  refine ex_behind (a := ((xr r :: as).map (rv B)).toArray) hC hk hS hL hrest ?_ kk
  rcases hlk with hl | ⟨host, hl⟩
  · exact va_runV (nL := c.maxLocals) (n := np) (Ts := xWS) (As := as.map (rv B)) (rest := rest.map (rv B)) ⟨hC.1, hC.2.1, rfl, hC.2.2.1, hts⟩ (hc l B D)
      ⟨callB_of np hts (good_ws hy.1) rfl rfl rfl (hts _ hy.2.1) (hts _ hl) hy.2.2.2 ⟨show fr + 1 ≤ R.frames by have := hC.2.2.2.2.2.2.2.1.1; omega, show 8 + (nL + 11) + lo ≤ R.locals by have := hC.2.2.2.2.2.2.2.1.2.1; omega⟩, hts _ hv.1, hts _ hv.2⟩
      ⟨Pre.blind (as := xr r :: as), hrec, hC.pre hR hz hin⟩ rfl (by simpa using hn) hL.1 hstk (lv_room (by rw [cat_sum]; exact hcat)) hd ⟨show k + mc ≤ R.cells by have := hC.2.2.2.2.2.2.2.1.2.2.1; omega, show j + ms ≤ R.slots by have := hC.2.2.2.2.2.2.2.1.2.2.2; omega⟩
  · exact va_runVN (nL := c.maxLocals) (n := np) (Ts := xWS) (As := as.map (rv B)) (rest := rest.map (rv B)) ⟨hC.1, hC.2.1, rfl, hC.2.2.1, hts⟩ (hc l B D)
      ⟨va_cnB np hts (good_ws hy.1) rfl rfl rfl (hC.2.2.2.2.2.1 _ hl rfl) (hts _ hy.2.1) hy.2.2.2 ⟨show fr + 1 ≤ R.frames by have := hC.2.2.2.2.2.2.2.1.1; omega, show 8 + (nL + 11) + lo ≤ R.locals by have := hC.2.2.2.2.2.2.2.1.2.1; omega⟩, hts _ hv.1, hts _ hv.2⟩
      ⟨Pre.blind (as := xr r :: as), hrec, hC.pre hR hz hin⟩ rfl (by simpa using hn) hL.1 hstk (lv_room (by rw [cat_sum]; exact hcat)) hd ⟨show k + mc ≤ R.cells by have := hC.2.2.2.2.2.2.2.1.2.2.1; omega, show j + ms ≤ R.slots by have := hC.2.2.2.2.2.2.2.1.2.2.2; omega⟩

theorem ex_callS {y : MethodName} {cc : ByteArray} {nL : Nat} {ret : Option FieldType} {np fr lo mc ms : Nat} {idx : Nat} {as rest : List xV} {PostY : xP} (hd : decode X.1 pc = .ok (.invokestatic idx, 3)) (hc : Ctr (mkC y cc nL ret fr lo mc ms) as n w PostY) (hlk : lkOK X.2.1 idx y) (hy : yOK y cc nL ret np) (hv : Cond.static y ∈ xWS) (hn : as.length = np) (hst0 : st = as.reverse ++ rest) (hcat : (rest.map xcat).sum ≤ 8) (hroom : fr + 1 ≤ X.2.2.1 ∧ 8 + (nL + 11) + lo ≤ X.2.2.2.1) (hcell : k + mc ≤ X.2.2.2.2.1 ∧ j + ms ≤ X.2.2.2.2.2.1) (kk : ∀ (v : Option xV) (w2 : xW), PostY v w2 → Ex X Post (k + mc) (j + ms) (n + mc) w2 (pc + 3) L (v.toList ++ rest)) : Ex X Post k j n w pc L st := by
  intro p l e R s m args below meth c H locs Q B D ls hC hR hk hS hL hst
  subst hst0
  refine W.ofSize hR hC.2.2.2.2.2.2.2.2.2.1 hk (fun hz => ?_)
  have hin : ∀ x ∈ as, inV x := fun x hx => hst x (List.mem_append_left _ (List.mem_reverse.mpr hx))
  have hrest : ∀ x ∈ rest, inV x := fun x hx => hst x (List.mem_append_right _ hx)
  have hts := hC.2.2.2.1
  have hstk : ((as.reverse ++ rest).map (rv B)) = (as.map (rv B)).reverse ++ rest.map (rv B) := by simp
  refine ex_behind (a := (as.map (rv B)).toArray) hC hk hS hL hrest ?_ kk
  rcases hlk with hl | ⟨host, hl⟩
  · exact va_runS (nL := c.maxLocals) (n := np) (Ts := xWS) (As := as.map (rv B)) (rest := rest.map (rv B)) ⟨hC.1, hC.2.1, rfl, hC.2.2.1, hts⟩ (hc l B D)
      ⟨callB_of np hts (good_ws hy.1) rfl rfl rfl (hts _ hy.2.1) (hts _ hl) hy.2.2.2 ⟨show fr + 1 ≤ R.frames by have := hC.2.2.2.2.2.2.2.1.1; omega, show 8 + (nL + 11) + lo ≤ R.locals by have := hC.2.2.2.2.2.2.2.1.2.1; omega⟩, hts _ hv⟩
      ⟨Pre.blind (as := as), hC.pre hR hz hin⟩ rfl (by simpa using hn) hL.1 hstk (lv_room (by rw [cat_sum]; exact hcat)) hd ⟨show k + mc ≤ R.cells by have := hC.2.2.2.2.2.2.2.1.2.2.1; omega, show j + ms ≤ R.slots by have := hC.2.2.2.2.2.2.2.1.2.2.2; omega⟩
  · exact va_runSN (nL := c.maxLocals) (n := np) (Ts := xWS) (As := as.map (rv B)) (rest := rest.map (rv B)) ⟨hC.1, hC.2.1, rfl, hC.2.2.1, hts⟩ (hc l B D)
      ⟨va_cnB np hts (good_ws hy.1) rfl rfl rfl (hC.2.2.2.2.2.1 _ hl rfl) (hts _ hy.2.1) hy.2.2.2 ⟨show fr + 1 ≤ R.frames by have := hC.2.2.2.2.2.2.2.1.1; omega, show 8 + (nL + 11) + lo ≤ R.locals by have := hC.2.2.2.2.2.2.2.1.2.1; omega⟩, hts _ hv, trivial⟩
      ⟨Pre.blind (as := as), hC.pre hR hz hin⟩ rfl (by simpa using hn) hL.1 hstk (lv_room (by rw [cat_sum]; exact hcat)) hd ⟨show k + mc ≤ R.cells by have := hC.2.2.2.2.2.2.2.1.2.2.1; omega, show j + ms ≤ R.slots by have := hC.2.2.2.2.2.2.2.1.2.2.2; omega⟩

theorem ex_callI {y : MethodName} {cc : ByteArray} {nL : Nat} {np fr lo mc ms : Nat} {idx r : Nat} {as rest : List xV} {PostY : xP} (hd : decode X.1 pc = .ok (.invokespecial idx, 3)) (hc : Ctr (mkC y cc nL none fr lo mc ms) (xr r :: as) n w PostY) (hlk : lkOK X.2.1 idx y) (hy : yOK y cc nL none np) (hv : nOK y) (hn : as.length = np) (hst0 : st = as.reverse ++ xr r :: rest) (hcat : (rest.map xcat).sum ≤ 8) (hroom : fr + 1 ≤ X.2.2.1 ∧ 8 + (nL + 11) + lo ≤ X.2.2.2.1) (hcell : k + mc ≤ X.2.2.2.2.1 ∧ j + ms ≤ X.2.2.2.2.2.1) (kk : ∀ (v : Option xV) (w2 : xW), PostY v w2 → Ex X Post (k + mc) (j + ms) (n + mc) w2 (pc + 3) L (v.toList ++ rest)) : Ex X Post k j n w pc L st := by
  intro p l e R s m args below meth c H locs Q B D ls hC hR hk hS hL hst
  subst hst0
  refine W.ofSize hR hC.2.2.2.2.2.2.2.2.2.1 hk (fun hz => ?_)
  have hin : ∀ x ∈ xr r :: as, inV x := hstc trivial (fun x hx => hst x (List.mem_append_left _ (List.mem_reverse.mpr hx)))
  have hrest : ∀ x ∈ rest, inV x := fun x hx => hst x (List.mem_append_right _ (List.mem_cons_of_mem _ hx))
  have hts := hC.2.2.2.1
  have hstk : ((as.reverse ++ xr r :: rest).map (rv B)) = (as.map (rv B)).reverse ++ .ref (B + r) :: rest.map (rv B) := by simp [rv]
  refine ex_behind (a := ((xr r :: as).map (rv B)).toArray) hC hk hS hL hrest ?_ kk
  rcases hlk with hl | ⟨host, hl⟩
  · exact va_runI (nL := c.maxLocals) (n := np) (Ts := xWS) (As := as.map (rv B)) (rest := rest.map (rv B)) ⟨hC.1, hC.2.1, rfl, hC.2.2.1, hts⟩ (hc l B D)
      ⟨callB_of np hts (good_ws hy.1) rfl rfl rfl (hts _ hy.2.1) (hts _ hl) hy.2.2.2 ⟨show fr + 1 ≤ R.frames by have := hC.2.2.2.2.2.2.2.1.1; omega, show 8 + (nL + 11) + lo ≤ R.locals by have := hC.2.2.2.2.2.2.2.1.2.1; omega⟩, hv.1, hts _ hv.2⟩
      ⟨Pre.blind (as := xr r :: as), hC.pre hR hz hin⟩ rfl (by simpa using hn) hL.1 hstk (lv_room (by rw [cat_sum]; exact hcat)) hd ⟨show k + mc ≤ R.cells by have := hC.2.2.2.2.2.2.2.1.2.2.1; omega, show j + ms ≤ R.slots by have := hC.2.2.2.2.2.2.2.1.2.2.2; omega⟩
  · exact va_runIN (nL := c.maxLocals) (n := np) (Ts := xWS) (As := as.map (rv B)) (rest := rest.map (rv B)) ⟨hC.1, hC.2.1, rfl, hC.2.2.1, hts⟩ (hc l B D)
      ⟨va_cnB np hts (good_ws hy.1) rfl rfl rfl (hC.2.2.2.2.2.1 _ hl rfl) (hts _ hy.2.1) hy.2.2.2 ⟨show fr + 1 ≤ R.frames by have := hC.2.2.2.2.2.2.2.1.1; omega, show 8 + (nL + 11) + lo ≤ R.locals by have := hC.2.2.2.2.2.2.2.1.2.1; omega⟩, hv.1, hts _ hv.2⟩
      ⟨Pre.blind (as := xr r :: as), hC.pre hR hz hin⟩ rfl (by simpa using hn) hL.1 hstk (lv_room (by rw [cat_sum]; exact hcat)) hd ⟨show k + mc ≤ R.cells by have := hC.2.2.2.2.2.2.2.1.2.2.1; omega, show j + ms ≤ R.slots by have := hC.2.2.2.2.2.2.2.1.2.2.2; omega⟩

theorem ex_callVI {y : MethodName} {cc : ByteArray} {nL : Nat} {ret : Option FieldType} {np fr lo mc ms : Nat} {idx ci r N : Nat} {T0 : u_T} {as rest fs : List xV} {P : Int → xW → Prop} (hd : decode X.1 pc = .ok (.invokevirtual idx, 3)) (hc : Ctr (mkC y cc nL ret fr lo mc ms) (xr r :: as) n w (pI P)) (hlk : lkOK X.2.1 idx y) (hy : yOK y cc nL ret np) (hv : vOK y) (hw : w r = xO ci fs) (hci : vwCl[ci]? = some (y.cls, T0, N)) (hn : as.length = np) (hst0 : st = as.reverse ++ xr r :: rest) (hcat : (rest.map xcat).sum ≤ 8) (hroom : fr + 1 ≤ X.2.2.1 ∧ 8 + (nL + 11) + lo ≤ X.2.2.2.1) (hcell : k + mc ≤ X.2.2.2.2.1 ∧ j + ms ≤ X.2.2.2.2.2.1) (kk : ∀ (i : Int) (w2 : xW), inI i → P i w2 → Ex X Post (k + mc) (j + ms) (n + mc) w2 (pc + 3) L (xi i :: rest)) : Ex X Post k j n w pc L st :=
  ex_callV hd hc hlk hy hv hw hci hn hst0 hcat hroom hcell (fun v w2 h => by obtain ⟨i, rfl, h⟩ := h; exact ex_inI (fun hi => kk i w2 hi h))

theorem ex_callVZ {y : MethodName} {cc : ByteArray} {nL : Nat} {ret : Option FieldType} {np fr lo mc ms : Nat} {idx ci r N : Nat} {T0 : u_T} {as rest fs : List xV} {P : Int → xW → Prop} (hd : decode X.1 pc = .ok (.invokevirtual idx, 3)) (hc : Ctr (mkC y cc nL ret fr lo mc ms) (xr r :: as) n w (pZ P)) (hlk : lkOK X.2.1 idx y) (hy : yOK y cc nL ret np) (hv : vOK y) (hw : w r = xO ci fs) (hci : vwCl[ci]? = some (y.cls, T0, N)) (hn : as.length = np) (hst0 : st = as.reverse ++ xr r :: rest) (hcat : (rest.map xcat).sum ≤ 8) (hroom : fr + 1 ≤ X.2.2.1 ∧ 8 + (nL + 11) + lo ≤ X.2.2.2.1) (hcell : k + mc ≤ X.2.2.2.2.1 ∧ j + ms ≤ X.2.2.2.2.2.1) (kk : ∀ (i : Int) (w2 : xW), (i = 0 ∨ i = 1) → P i w2 → Ex X Post (k + mc) (j + ms) (n + mc) w2 (pc + 3) L (xi i :: rest)) : Ex X Post k j n w pc L st :=
  ex_callV hd hc hlk hy hv hw hci hn hst0 hcat hroom hcell (fun v w2 h => by obtain ⟨i, rfl, h0, h⟩ := h; exact kk i w2 h0 h)

theorem ex_callVV {y : MethodName} {cc : ByteArray} {nL : Nat} {ret : Option FieldType} {np fr lo mc ms : Nat} {idx ci r N : Nat} {T0 : u_T} {as rest fs : List xV} {P : xW → Prop} (hd : decode X.1 pc = .ok (.invokevirtual idx, 3)) (hc : Ctr (mkC y cc nL ret fr lo mc ms) (xr r :: as) n w (pV P)) (hlk : lkOK X.2.1 idx y) (hy : yOK y cc nL ret np) (hv : vOK y) (hw : w r = xO ci fs) (hci : vwCl[ci]? = some (y.cls, T0, N)) (hn : as.length = np) (hst0 : st = as.reverse ++ xr r :: rest) (hcat : (rest.map xcat).sum ≤ 8) (hroom : fr + 1 ≤ X.2.2.1 ∧ 8 + (nL + 11) + lo ≤ X.2.2.2.1) (hcell : k + mc ≤ X.2.2.2.2.1 ∧ j + ms ≤ X.2.2.2.2.2.1) (kk : ∀ (w2 : xW), P w2 → Ex X Post (k + mc) (j + ms) (n + mc) w2 (pc + 3) L rest) : Ex X Post k j n w pc L st :=
  ex_callV hd hc hlk hy hv hw hci hn hst0 hcat hroom hcell (fun v w2 h => by obtain ⟨rfl, h⟩ := h; exact kk w2 h)

theorem ex_callVR {y : MethodName} {cc : ByteArray} {nL : Nat} {ret : Option FieldType} {np fr lo mc ms : Nat} {idx ci r N : Nat} {T0 : u_T} {as rest fs : List xV} {P : Nat → xW → Prop} (hd : decode X.1 pc = .ok (.invokevirtual idx, 3)) (hc : Ctr (mkC y cc nL ret fr lo mc ms) (xr r :: as) n w (pR P)) (hlk : lkOK X.2.1 idx y) (hy : yOK y cc nL ret np) (hv : vOK y) (hw : w r = xO ci fs) (hci : vwCl[ci]? = some (y.cls, T0, N)) (hn : as.length = np) (hst0 : st = as.reverse ++ xr r :: rest) (hcat : (rest.map xcat).sum ≤ 8) (hroom : fr + 1 ≤ X.2.2.1 ∧ 8 + (nL + 11) + lo ≤ X.2.2.2.1) (hcell : k + mc ≤ X.2.2.2.2.1 ∧ j + ms ≤ X.2.2.2.2.2.1) (kk : ∀ (i : Nat) (w2 : xW), P i w2 → Ex X Post (k + mc) (j + ms) (n + mc) w2 (pc + 3) L (xr i :: rest)) : Ex X Post k j n w pc L st :=
  ex_callV hd hc hlk hy hv hw hci hn hst0 hcat hroom hcell (fun v w2 h => by obtain ⟨i, rfl, h⟩ := h; exact kk i w2 h)

theorem ex_callSI {y : MethodName} {cc : ByteArray} {nL : Nat} {ret : Option FieldType} {np fr lo mc ms : Nat} {idx : Nat} {as rest : List xV} {P : Int → xW → Prop} (hd : decode X.1 pc = .ok (.invokestatic idx, 3)) (hc : Ctr (mkC y cc nL ret fr lo mc ms) as n w (pI P)) (hlk : lkOK X.2.1 idx y) (hy : yOK y cc nL ret np) (hv : Cond.static y ∈ xWS) (hn : as.length = np) (hst0 : st = as.reverse ++ rest) (hcat : (rest.map xcat).sum ≤ 8) (hroom : fr + 1 ≤ X.2.2.1 ∧ 8 + (nL + 11) + lo ≤ X.2.2.2.1) (hcell : k + mc ≤ X.2.2.2.2.1 ∧ j + ms ≤ X.2.2.2.2.2.1) (kk : ∀ (i : Int) (w2 : xW), inI i → P i w2 → Ex X Post (k + mc) (j + ms) (n + mc) w2 (pc + 3) L (xi i :: rest)) : Ex X Post k j n w pc L st :=
  ex_callS hd hc hlk hy hv hn hst0 hcat hroom hcell (fun v w2 h => by obtain ⟨i, rfl, h⟩ := h; exact ex_inI (fun hi => kk i w2 hi h))

theorem ex_callSZ {y : MethodName} {cc : ByteArray} {nL : Nat} {ret : Option FieldType} {np fr lo mc ms : Nat} {idx : Nat} {as rest : List xV} {P : Int → xW → Prop} (hd : decode X.1 pc = .ok (.invokestatic idx, 3)) (hc : Ctr (mkC y cc nL ret fr lo mc ms) as n w (pZ P)) (hlk : lkOK X.2.1 idx y) (hy : yOK y cc nL ret np) (hv : Cond.static y ∈ xWS) (hn : as.length = np) (hst0 : st = as.reverse ++ rest) (hcat : (rest.map xcat).sum ≤ 8) (hroom : fr + 1 ≤ X.2.2.1 ∧ 8 + (nL + 11) + lo ≤ X.2.2.2.1) (hcell : k + mc ≤ X.2.2.2.2.1 ∧ j + ms ≤ X.2.2.2.2.2.1) (kk : ∀ (i : Int) (w2 : xW), (i = 0 ∨ i = 1) → P i w2 → Ex X Post (k + mc) (j + ms) (n + mc) w2 (pc + 3) L (xi i :: rest)) : Ex X Post k j n w pc L st :=
  ex_callS hd hc hlk hy hv hn hst0 hcat hroom hcell (fun v w2 h => by obtain ⟨i, rfl, h0, h⟩ := h; exact kk i w2 h0 h)

theorem ex_callSV {y : MethodName} {cc : ByteArray} {nL : Nat} {ret : Option FieldType} {np fr lo mc ms : Nat} {idx : Nat} {as rest : List xV} {P : xW → Prop} (hd : decode X.1 pc = .ok (.invokestatic idx, 3)) (hc : Ctr (mkC y cc nL ret fr lo mc ms) as n w (pV P)) (hlk : lkOK X.2.1 idx y) (hy : yOK y cc nL ret np) (hv : Cond.static y ∈ xWS) (hn : as.length = np) (hst0 : st = as.reverse ++ rest) (hcat : (rest.map xcat).sum ≤ 8) (hroom : fr + 1 ≤ X.2.2.1 ∧ 8 + (nL + 11) + lo ≤ X.2.2.2.1) (hcell : k + mc ≤ X.2.2.2.2.1 ∧ j + ms ≤ X.2.2.2.2.2.1) (kk : ∀ (w2 : xW), P w2 → Ex X Post (k + mc) (j + ms) (n + mc) w2 (pc + 3) L rest) : Ex X Post k j n w pc L st :=
  ex_callS hd hc hlk hy hv hn hst0 hcat hroom hcell (fun v w2 h => by obtain ⟨rfl, h⟩ := h; exact kk w2 h)

theorem ex_callIV {y : MethodName} {cc : ByteArray} {nL : Nat} {np fr lo mc ms : Nat} {idx r : Nat} {as rest : List xV} {P : xW → Prop} (hd : decode X.1 pc = .ok (.invokespecial idx, 3)) (hc : Ctr (mkC y cc nL none fr lo mc ms) (xr r :: as) n w (pV P)) (hlk : lkOK X.2.1 idx y) (hy : yOK y cc nL none np) (hv : nOK y) (hn : as.length = np) (hst0 : st = as.reverse ++ xr r :: rest) (hcat : (rest.map xcat).sum ≤ 8) (hroom : fr + 1 ≤ X.2.2.1 ∧ 8 + (nL + 11) + lo ≤ X.2.2.2.1) (hcell : k + mc ≤ X.2.2.2.2.1 ∧ j + ms ≤ X.2.2.2.2.2.1) (kk : ∀ (w2 : xW), P w2 → Ex X Post (k + mc) (j + ms) (n + mc) w2 (pc + 3) L rest) : Ex X Post k j n w pc L st :=
  ex_callI hd hc hlk hy hv hn hst0 hcat hroom hcell (fun v w2 h => by obtain ⟨rfl, h⟩ := h; exact kk w2 h)

theorem ex_max {idx : Nat} {a b : Int} (hd : decode X.1 pc = .ok (.invokestatic idx, 3)) (hlk : Cond.methodLink X.2.1 idx Lib.Math.max.name ∈ xWS) (hfr : 1 ≤ X.2.2.1) (hlo : (st.map xcat).sum + 13 ≤ X.2.2.2.1) (hkc : k ≤ X.2.2.2.2.1) (hjc : j ≤ X.2.2.2.2.2.1) (kk : Ex X Post k j n w (pc + 3) L (xi (if a < b then b else a) :: st)) : Ex X Post k j n w pc L (xi b :: xi a :: st) := by
  intro p l e R s m args below meth c H locs Q B D ls hC hR hk hS hL hst
  have hts := hC.2.2.2.1
  refine va_mmax hC.1 hC.2.1 (by rw [hL.1]) hC.2.2.1 (hts _ hlk) (hts _ w_mst) (hts _ w_min) (hts _ w_mco) (by have := hC.2.2.2.2.2.2.2.1.1; omega) (by rw [cat_sum]; have := hC.2.2.2.2.2.2.2.1.2.1; omega) (by have := hC.2.2.2.2.2.2.2.1.2.2.1; omega) (by have := hC.2.2.2.2.2.2.2.1.2.2.2; omega) hd ?_
  have hi : inI (if a < b then b else a) := by
    split
    · exact hst1 hst
    · exact hst1 (hst2 hst)
  have K := kk p l e R s m args below meth c H locs Q B D ls hC hR hk hS hL (hstc hi (hst2 (hst2 hst)))
  have e9 : (if Int32.ofInt a < Int32.ofInt b then Int32.ofInt b else Int32.ofInt a) = Int32.ofInt (if a < b then b else a) := by
    by_cases q : a < b
    · rw [if_pos q, if_pos ((i32_lt (hst1 (hst2 hst)) (hst1 hst)).mpr q)]
    · rw [if_neg q, if_neg (fun z => q ((i32_lt (hst1 (hst2 hst)) (hst1 hst)).mp z))]
  rw [e9]
  exact K
theorem ex_copy {idx r1 r2 N1 N2 : Nat} {f g : Nat → Int} {M : Nat} {sp dp m9 : Int} (hd : decode X.1 pc = .ok (.invokestatic idx, 3)) (hlk : Cond.methodLink X.2.1 idx arraycopyName ∈ xWS) (h1 : w r1 = xA N1 f) (h2 : w r2 = xA N2 g) (hsp : sp = 0) (hdp : dp = 0) (hm : m9 = (M : Int)) (hM1 : M ≤ N1) (hM2 : M ≤ N2) (hfr : 1 ≤ X.2.2.1) (hlo : (st.map xcat).sum + (nativeFrameWords "java/lang/System" "arraycopy" 5 + 11) ≤ X.2.2.2.1) (kk : Ex X Post k j n (va_up w r2 (xA N2 (fun q => if q < M then f q else g q))) (pc + 3) L st) : Ex X Post k j n w pc L (xi m9 :: xi dp :: xr r2 :: xi sp :: xr r1 :: st) := by
  intro p l e R s m args below meth c H locs Q B D ls hC hR hk hS hL hst
  subst hsp; subst hdp; subst hm
  have hts := hC.2.2.2.1
  have hr1 : r1 < n := hR.lt (arZ h1)
  have hr2 : r2 < n := hR.lt (arZ h2)
  have hin1 := hR.inA h1
  have hin2 := hR.inA h2
  obtain ⟨hz2, ka, hP, h4⟩ := id hR
  have h5 := h4 r1 hr1
  rw [h1] at h5
  have h6 := h4 r2 hr2
  rw [h2] at h6
  have he1 : (wsOf B ka n w)[r1]? = some (B + r1, .inl (ka r1, N1, .inl (fun j => Int32.ofInt (f j)))) := by rw [wsOf_get hr1, h1]; rfl
  have he2 : (wsOf B ka n w)[r2]? = some (B + r2, .inl (ka r2, N2, .inl (fun j => Int32.ofInt (g j)))) := by rw [wsOf_get hr2, h2]; rfl
  have hiM : inI (M : Int) := hst1 hst
  have z0 : (Int32.ofInt 0).toNatClampNeg = 0 := by decide
  have zM : (Int32.ofInt (M : Int)).toNatClampNeg = M := by rw [i32_nat hiM (by omega)]; simp
  refine va_copyi (D := D) (A := fun q => B ≤ q) (H0 := s.heap) (cl := vwCl) (ty := .int) (sp := Int32.ofInt 0) (dp := Int32.ofInt 0) (n := Int32.ofInt (M : Int)) (tys := [(ka r1, .int), (ka r2, .int)]) hC.1 hC.2.1 (by rw [hL.1]) hC.2.2.1 (hts _ hlk) (hts _ w_cna) (hts _ w_cst) (hts _ w_cin) (hC.2.2.2.2.1.plus2 h5.1 h6.1) hP wsOf_D hS r1 r2 0 1 he1 he2 rfl rfl rfl (by decide) (by decide) (by show ¬ Int32.ofInt (M : Int) < Int32.ofInt 0; rw [i32_lt hiM (by unfold inI; omega)]; omega) (by rw [z0, zM]; omega) (by rw [z0, zM]; omega) (fun _ _ => rfl) (by have := hC.2.2.2.2.2.2.2.1.1; omega) (by rw [cat_sum]; have := hC.2.2.2.2.2.2.2.1.2.1; omega) hd (fun H1 locs1 hP1 _ hS1 => ?_)
  rw [z0, zM] at hP1
  refine kk p l e R s m args below meth c H1 locs1 Q B D ls hC (Rel.set (ka := ka) hr2 hz2 ?_ h4 ?_) hk hS1 hL (hst2 (hst2 (hst2 (hst2 (hst2 hst)))))
  · have e1 : va_cpy (fun j => Int32.ofInt (f j)) (fun j => Int32.ofInt (g j)) 0 0 M = fun j => Int32.ofInt (if j < M then f j else g j) := by
      funext q
      by_cases h : q < M <;> simp [va_cpy, h]
    rw [e1] at hP1
    exact hP1
  · refine ⟨h6.1, fun q => ?_⟩
    by_cases h : q < M
    · simp only [h, if_true]; exact hin1 q
    · simp only [h, if_false]; exact hin2 q
end RULES
end
section
theorem wl_X6_3 : Cond.methodLink RX6 3 objectInit ∈ xWS := xws tw_87 rfl
theorem wl_X4_3 : Cond.methodLink RX4 3 objectInit ∈ xWS := xws tw_95 rfl
theorem wk_X4_9 : Cond.fieldLink RX4 9 "ShiftedShapes$Script" "letters" "[I" ∈ xWS := xws tw_96 rfl
theorem wl_X2_3 : Cond.methodLink RX2 3 objectInit ∈ xWS := xws tw_113 rfl
theorem wk_X2_9 : Cond.fieldLink RX2 9 "ShiftedShapes$Piece" "codes" "[I" ∈ xWS := xws tw_114 rfl
theorem wl_X3_1 : Cond.methodLink RX3 1 objectInit ∈ xWS := xws tw_135 rfl
theorem wl_X3_7 : Cond.methodLink RX3 7 Lib.Math.max.name ∈ xWS := xws tw_136 rfl
theorem wk_X3_15 : Cond.fieldLink RX3 15 "ShiftedShapes$Pile" "pieces" "[LShiftedShapes$Piece;" ∈ xWS := xws tw_142 rfl
theorem wl_X5_3 : Cond.methodLink RX5 3 objectInit ∈ xWS := xws tw_155 rfl
theorem wk_X5_9 : Cond.fieldLink RX5 9 "ShiftedShapes$Search" "times" "[I" ∈ xWS := xws tw_156 rfl
theorem wk_X5_15 : Cond.fieldLink RX5 15 "ShiftedShapes$Search" "pitches" "[I" ∈ xWS := xws tw_157 rfl
theorem wk_X5_18 : Cond.fieldLink RX5 18 "ShiftedShapes$Search" "numbers" "[I" ∈ xWS := xws tw_158 rfl
theorem wk_X5_21 : Cond.fieldLink RX5 21 "ShiftedShapes$Search" "largests" "[I" ∈ xWS := xws tw_159 rfl
theorem wk_X5_24 : Cond.fieldLink RX5 24 "ShiftedShapes$Search" "wideShifts" "[I" ∈ xWS := xws tw_160 rfl
theorem wk_X5_27 : Cond.fieldLink RX5 27 "ShiftedShapes$Search" "shapeSets" "[I" ∈ xWS := xws tw_164 rfl
theorem wk_X5_30 : Cond.fieldLink RX5 30 "ShiftedShapes$Search" "shapePlaces" "[I" ∈ xWS := xws tw_167 rfl
theorem wk_X5_33 : Cond.fieldLink RX5 33 "ShiftedShapes$Search" "shapeCovers" "[I" ∈ xWS := xws tw_170 rfl
theorem wl_X1_3 : Cond.methodLink RX1 3 objectInit ∈ xWS := xws tw_208 rfl
theorem wk_X1_9 : Cond.fieldLink RX1 9 "ShiftedShapes$Parting" "sets" "[I" ∈ xWS := xws tw_209 rfl
theorem wk_X1_15 : Cond.fieldLink RX1 15 "ShiftedShapes$Parting" "places" "[I" ∈ xWS := xws tw_211 rfl
theorem wk_X1_18 : Cond.fieldLink RX1 18 "ShiftedShapes$Parting" "covers" "[I" ∈ xWS := xws tw_213 rfl
theorem wl_X0_3 : Cond.methodLink RX0 3 objectInit ∈ xWS := xws tw_239 rfl
theorem wk_X0_9 : Cond.fieldLink RX0 9 "ShiftedShapes$Covering" "covers" "[I" ∈ xWS := xws tw_240 rfl
theorem wk_X6_12 : Cond.fieldLink RX6 12 "ShiftedShapes" "script" "LShiftedShapes$Script;" ∈ xWS := xws tw_258 rfl
theorem wk_X6_19 : Cond.fieldLink RX6 19 "ShiftedShapes" "piece" "LShiftedShapes$Piece;" ∈ xWS := xws tw_259 rfl
theorem wk_X6_23 : Cond.fieldLink RX6 23 "ShiftedShapes" "trial" "LShiftedShapes$Piece;" ∈ xWS := xws tw_260 rfl
theorem wk_X6_31 : Cond.fieldLink RX6 31 "ShiftedShapes" "undoable" "LShiftedShapes$Pile;" ∈ xWS := xws tw_261 rfl
theorem wk_X6_35 : Cond.fieldLink RX6 35 "ShiftedShapes" "kept" "LShiftedShapes$Pile;" ∈ xWS := xws tw_262 rfl
theorem wk_X6_41 : Cond.fieldLink RX6 41 "ShiftedShapes" "whole" "LShiftedShapes$Search;" ∈ xWS := xws tw_263 rfl
theorem wk_X6_45 : Cond.fieldLink RX6 45 "ShiftedShapes" "scratch" "LShiftedShapes$Search;" ∈ xWS := xws tw_264 rfl
theorem wk_X6_51 : Cond.fieldLink RX6 51 "ShiftedShapes" "parts" "LShiftedShapes$Parting;" ∈ xWS := xws tw_265 rfl
theorem wk_X6_58 : Cond.fieldLink RX6 58 "ShiftedShapes" "covering" "LShiftedShapes$Covering;" ∈ xWS := xws tw_266 rfl
theorem wl_X4_67 : Cond.methodLink RX4 67 Lib.Math.max.name ∈ xWS := xws tw_338 rfl
theorem wl_X2_19 : Cond.methodLink RX2 19 arraycopyName ∈ xWS := xws tw_360 rfl
theorem wl_X7_1 : Cond.methodLink RX7 1 objectInit ∈ xWS := xws tw_660 rfl
theorem wk_X7_7 : Cond.fieldLink RX7 7 "ShiftedShapesModel" "now" "[I" ∈ xWS := xws tw_671 rfl
theorem wk_X7_13 : Cond.fieldLink RX7 13 "ShiftedShapesModel" "read" "[I" ∈ xWS := xws tw_672 rfl
theorem wk_X7_16 : Cond.fieldLink RX7 16 "ShiftedShapesModel" "aside" "[I" ∈ xWS := xws tw_673 rfl
theorem wk_X7_19 : Cond.fieldLink RX7 19 "ShiftedShapesModel" "past" "[I" ∈ xWS := xws tw_674 rfl
theorem wk_X7_22 : Cond.fieldLink RX7 22 "ShiftedShapesModel" "kept" "[I" ∈ xWS := xws tw_676 rfl
theorem wk_X7_25 : Cond.fieldLink RX7 25 "ShiftedShapesModel" "text" "[I" ∈ xWS := xws tw_678 rfl
theorem wk_X7_28 : Cond.fieldLink RX7 28 "ShiftedShapesModel" "at" "[I" ∈ xWS := xws tw_681 rfl
theorem wk_X7_31 : Cond.fieldLink RX7 31 "ShiftedShapesModel" "largest" "[I" ∈ xWS := xws tw_682 rfl
theorem wk_X7_34 : Cond.fieldLink RX7 34 "ShiftedShapesModel" "shape" "[I" ∈ xWS := xws tw_687 rfl
theorem wk_X7_37 : Cond.fieldLink RX7 37 "ShiftedShapesModel" "part" "[I" ∈ xWS := xws tw_693 rfl
theorem wk_X7_40 : Cond.fieldLink RX7 40 "ShiftedShapesModel" "few" "[I" ∈ xWS := xws tw_696 rfl
theorem wk_X7_43 : Cond.fieldLink RX7 43 "ShiftedShapesModel" "covers" "[I" ∈ xWS := xws tw_697 rfl
theorem up_s {α : Type} {f : Nat → α} {k : Nat} {v : α} : va_up f k v k = v := by simp [va_up]
theorem up_n {α : Type} {f : Nat → α} {k j : Nat} {v : α} (h : j ≠ k) : va_up f k v j = f j := by simp [va_up, h]
section RULES
variable {X : xC} {Post : xP} {k j n : Nat} {w : xW} {pc : Nat} {L : List (Option xV)} {st : List xV}
theorem ex_up {r : Nat} {e : xE} (kk : ∀ w2, w2 = va_up w r e → Ex X Post k j n w2 pc L st) : Ex X Post k j n (va_up w r e) pc L st := kk _ rfl
theorem ex_top {i : Int} (kk : ∀ x, x = i → Ex X Post k j n w pc L (xi x :: st)) : Ex X Post k j n w pc L (xi i :: st) := kk _ rfl
theorem ex_eq {i x : Int} (h : i = x) (kk : Ex X Post k j n w pc L (xi x :: st)) : Ex X Post k j n w pc L (xi i :: st) := h ▸ kk
theorem ex_obj {idx r : Nat} (hd : decode X.1 pc = .ok (.invokespecial idx, 3)) (hl : Cond.methodLink X.2.1 idx objectInit ∈ xWS) (hfr : 1 ≤ X.2.2.1) (hlo : (st.map xcat).sum + 12 ≤ X.2.2.2.1) (kk : Ex X Post k j n w (pc + 3) L st) : Ex X Post k j n w pc L (xr r :: st) := by
  intro p l e R s m args below meth c H locs Q B D ls hC hR hk hS hL hst
  have hcs : ((st.map (rv B)).map fun v => v.category).sum = (st.map xcat).sum := cat_sum B st
  refine W.objInit hC.1 hC.2.1 hC.2.2.1 (hC.2.2.2.1 _ hl) (hC.2.2.2.1 _ w_oin) (hC.2.2.2.1 _ w_oco) rfl hL.1 rfl hd (by have := hC.2.2.2.2.2.2.2.1.1; omega) (by show 2 * 0 + _ + 12 ≤ _; rw [hcs]; have := hC.2.2.2.2.2.2.2.1.2.1; omega) ?_
  exact kk p l e R s m args below meth c H locs Q B D ls hC hR hk hS hL (hst2 hst)
end RULES
end
section
/-! ===== bits: the first family is pasted from kit/laws/BITS.to-paste (Int32 by its bits) ===== -/
def bt (x : Int32) (i : Nat) : Bool := x.toBitVec.getLsbD i
theorem b_ext {x y : Int32} (h : ∀ i, i < 32 → bt x i = bt y i) : x = y := Int32.toBitVec_inj.mp (BitVec.eq_of_getLsbD_eq (fun i hi => h i hi))
theorem b_or (x y : Int32) (i : Nat) : bt (x ||| y) i = (bt x i || bt y i) := by unfold bt; rw [Int32.toBitVec_or, BitVec.getLsbD_or]
theorem b_and (x y : Int32) (i : Nat) : bt (x &&& y) i = (bt x i && bt y i) := by unfold bt; rw [Int32.toBitVec_and, BitVec.getLsbD_and]
theorem b_xor (x y : Int32) (i : Nat) : bt (x ^^^ y) i = (bt x i ^^ bt y i) := by unfold bt; rw [Int32.toBitVec_xor, BitVec.getLsbD_xor]
theorem b_big {x : Int32} {i : Nat} (h : 32 ≤ i) : bt x i = false := BitVec.getLsbD_of_ge _ _ h
theorem b_255 (i : Nat) : bt 255 i = decide (i < 8) := by
  rcases Nat.lt_or_ge i 32 with h | h
  · exact (by decide +kernel : ∀ i, i < 32 → bt 255 i = decide (i < 8)) i h
  · rw [b_big h, decide_eq_false (by omega)]
theorem b_65535 (i : Nat) : bt 65535 i = decide (i < 16) := by
  rcases Nat.lt_or_ge i 32 with h | h
  · exact (by decide +kernel : ∀ i, i < 32 → bt 65535 i = decide (i < 16)) i h
  · rw [b_big h, decide_eq_false (by omega)]
theorem b_m1 : ∀ i, i < 32 → bt (-1) i = true := by decide +kernel
theorem b_0 (i : Nat) : bt 0 i = false := BitVec.getLsbD_zero
theorem s_l : ∀ n, n < 32 → ((nI n &&& 31).toBitVec.smod 32).toNat = n := by decide +kernel
theorem s_u : ∀ n, n < 32 → (((nI n).toUInt32 &&& Int32.toUInt32 31).toBitVec % 32).toNat = n := by decide +kernel
theorem b_shl (n : Nat) (hn : n < 32) (x : Int32) {i : Nat} (hi : i < 32) : bt (x <<< (nI n &&& 31)) i = (decide (n ≤ i) && bt x (i - n)) := by
  unfold bt
  rw [Int32.toBitVec_shiftLeft]
  show (x.toBitVec <<< ((nI n &&& 31).toBitVec.smod 32).toNat).getLsbD i = _
  rw [s_l n hn, BitVec.getLsbD_shiftLeft]
  rcases Nat.lt_or_ge i n with h | h
  · simp [h, Nat.not_le.mpr h]
  · simp [hi, h, Nat.not_lt.mpr h]
theorem b_ushr (n : Nat) (hn : n < 32) (x : Int32) (i : Nat) : bt ((x.toUInt32 >>> ((nI n).toUInt32 &&& Int32.toUInt32 31)).toInt32) i = bt x (n + i) := by
  show (x.toUInt32 >>> ((nI n).toUInt32 &&& Int32.toUInt32 31)).toBitVec.getLsbD i = x.toUInt32.toBitVec.getLsbD (n + i)
  rw [UInt32.toBitVec_shiftRight]
  show (x.toUInt32.toBitVec >>> (((nI n).toUInt32 &&& Int32.toUInt32 31).toBitVec % 32).toNat).getLsbD i = _
  rw [s_u n hn, BitVec.getLsbD_ushiftRight]
theorem b_sshr (n : Nat) (hn : n < 32) (x : Int32) {i : Nat} (hi : i < 32) : bt (x >>> (nI n &&& 31)) i = if n + i < 32 then bt x (n + i) else bt x 31 := by
  unfold bt
  rw [Int32.toBitVec_shiftRight]
  show (x.toBitVec.sshiftRight ((nI n &&& 31).toBitVec.smod 32).toNat).getLsbD i = _
  rw [s_l n hn, BitVec.getLsbD_sshiftRight, BitVec.msb_eq_getLsbD_last]
  simp [hi]
theorem ofI_n (a : Nat) : Int32.ofInt (a : Int) = nI a := by
  apply Int32.toBitVec_inj.1
  show BitVec.ofInt 32 (a : Int) = BitVec.ofNat 32 a
  exact BitVec.ofInt_natCast 32 a
theorem bt_nI {a i : Nat} (hi : i < 32) : bt (nI a) i = a.testBit i := by
  show (BitVec.ofNat 32 a).getLsbD i = _
  rw [BitVec.getLsbD_ofNat]
  simp [hi]
theorem xb {x : Int32} {m : Nat} (hm : m < 2 ^ 31) (h : ∀ i, i < 32 → bt x i = m.testBit i) : x.toInt = m := by
  rw [show x = nI m from b_ext (fun i hi => by rw [h i hi, bt_nI hi])]
  exact nI_toInt hm
theorem xand_n {a b : Nat} (ha : a < 2 ^ 31) : xand a b = ((a &&& b : Nat) : Int) := by
  refine xb (Nat.lt_of_le_of_lt Nat.and_le_left ha) (fun i hi => ?_)
  rw [b_and, ofI_n, ofI_n, bt_nI hi, bt_nI hi, Nat.testBit_and]
theorem xor_n {a b : Nat} (ha : a < 2 ^ 31) (hb : b < 2 ^ 31) : xor a b = ((a ||| b : Nat) : Int) := by
  refine xb (Nat.or_lt_two_pow ha hb) (fun i hi => ?_)
  rw [b_or, ofI_n, ofI_n, bt_nI hi, bt_nI hi, Nat.testBit_or]
/-- what is in a and not in b -/
def dif (a b : Nat) : Nat := a ^^^ (a &&& b)
theorem dif_bit (a b i : Nat) : (dif a b).testBit i = (a.testBit i && !b.testBit i) := by
  unfold dif
  rw [Nat.testBit_xor, Nat.testBit_and]
  cases a.testBit i <;> cases b.testBit i <;> rfl
theorem dif_and (a b : Nat) : dif a b = a &&& dif a b := by
  apply Nat.eq_of_testBit_eq
  intro i
  rw [Nat.testBit_and, dif_bit]
  cases a.testBit i <;> cases b.testBit i <;> rfl
theorem dif_le (a b : Nat) : dif a b ≤ a := by
  rw [dif_and]
  exact Nat.and_le_left
theorem xdif_n {a b : Nat} (ha : a < 2 ^ 31) : xand a (xxor b (-1)) = ((dif a b : Nat) : Int) := by
  refine xb (Nat.lt_of_le_of_lt (dif_le a b) ha) (fun i hi => ?_)
  show bt (Int32.ofInt a &&& Int32.ofInt (Int32.ofInt b ^^^ Int32.ofInt (-1)).toInt) i = _
  rw [b_and, i32_back, b_xor, ofI_n, ofI_n, bt_nI hi, bt_nI hi, show bt (Int32.ofInt (-1)) i = true from b_m1 i hi, dif_bit]
  cases a.testBit i <;> cases b.testBit i <;> rfl
theorem xshl_n : ∀ n : Nat, n < 31 → xshl 1 (n : Int) = ((2 ^ n : Nat) : Int) := by decide +kernel
theorem bit31 {a i : Nat} (ha : a < 2 ^ 31) (hi : 31 ≤ i) : a.testBit i = false := Nat.testBit_lt_two_pow (Nat.lt_of_lt_of_le ha (Nat.pow_le_pow_right (by decide) hi))
theorem xshr_n {a n : Nat} (ha : a < 2 ^ 31) (hn : n < 31) : xshr a n = ((a >>> n : Nat) : Int) := by
  refine xb (Nat.lt_of_le_of_lt (by rw [Nat.shiftRight_eq_div_pow]; exact Nat.div_le_self _ _) ha) (fun i hi => ?_)
  rw [ofI_n, ofI_n, b_sshr n (by omega) _ hi, Nat.testBit_shiftRight]
  split
  · rename_i h; exact bt_nI h
  · rw [bt_nI (by omega), bit31 ha (by omega), bit31 ha (by omega)]
theorem xushr_n {a n : Nat} (ha : a < 2 ^ 31) (hn : n < 31) : xushr a n = ((a >>> n : Nat) : Int) := by
  refine xb (Nat.lt_of_le_of_lt (by rw [Nat.shiftRight_eq_div_pow]; exact Nat.div_le_self _ _) ha) (fun i hi => ?_)
  rw [ofI_n, ofI_n, b_ushr n (by omega) _ i, Nat.testBit_shiftRight]
  rcases Nat.lt_or_ge (n + i) 32 with h | h
  · exact bt_nI h
  · rw [b_big h, bit31 ha (by omega)]
theorem xhas_n {a n : Nat} (ha : a < 2 ^ 31) (hn : n < 31) : xand (xshr a n) 1 = if a.testBit n then 1 else 0 := by
  rw [xshr_n ha hn, show ((1 : Int)) = ((1 : Nat) : Int) from rfl, xand_n (Nat.lt_of_le_of_lt (by rw [Nat.shiftRight_eq_div_pow]; exact Nat.div_le_self _ _) ha), Nat.and_one_is_mod, Nat.shiftRight_eq_div_pow, Nat.testBit_eq_decide_div_mod_eq]
  have := Nat.mod_two_eq_zero_or_one (a / 2 ^ n)
  rcases this with h | h <;> simp [h]
/-- how many bits -/
def pc14 (a : Nat) : Nat := a % 2 + a / 2 % 2 + a / 4 % 2 + a / 8 % 2 + a / 16 % 2 + a / 32 % 2 + a / 64 % 2 + a / 128 % 2 + a / 256 % 2 + a / 512 % 2 + a / 1024 % 2 + a / 2048 % 2 + a / 4096 % 2 + a / 8192 % 2
def bcN (a : Nat) : Nat :=
  let a1 := a - ((a >>> 1) &&& 1431655765)
  let a2 := (a1 &&& 858993459) + ((a1 >>> 2) &&& 858993459)
  let a3 := (a2 + (a2 >>> 4)) &&& 252645135
  let a4 := a3 + (a3 >>> 8)
  let a5 := a4 + (a4 >>> 16)
  a5 &&& 63
def ckB (a : Nat) : Bool := Nat.beq (bcN a) (pc14 a) && (Nat.ble ((a >>> 1) &&& 1431655765) a && ((Nat.beq a 0 || Nat.beq (pc14 a) (pc14 (a &&& (a - 1)) + 1)) && (Nat.ble (pc14 a) 1 == Nat.beq (a &&& (a - 1)) 0)))
def ckA : Nat → Nat → Bool
  | 0, _ => true
  | n + 1, s => ckB (s + n) && ckA n s
theorem ckA_ok : ∀ (n s a : Nat), ckA n s = true → s ≤ a → a < s + n → ckB a = true := by
  intro n
  induction n with
  | zero => intro s a h h1 h2; omega
  | succ n ih =>
    intro s a h h1 h2
    simp only [ckA, Bool.and_eq_true] at h
    by_cases e : a = s + n
    · rw [e]; exact h.1
    · exact ih s a h.2 h1 (by omega)
theorem ck_0 : ckA 128 0 = true := by decide +kernel
theorem ck_1 : ckA 128 128 = true := by decide +kernel
theorem ck_2 : ckA 128 256 = true := by decide +kernel
theorem ck_3 : ckA 128 384 = true := by decide +kernel
theorem ck_4 : ckA 128 512 = true := by decide +kernel
theorem ck_5 : ckA 128 640 = true := by decide +kernel
theorem ck_6 : ckA 128 768 = true := by decide +kernel
theorem ck_7 : ckA 128 896 = true := by decide +kernel
theorem ck_8 : ckA 128 1024 = true := by decide +kernel
theorem ck_9 : ckA 128 1152 = true := by decide +kernel
theorem ck_10 : ckA 128 1280 = true := by decide +kernel
theorem ck_11 : ckA 128 1408 = true := by decide +kernel
theorem ck_12 : ckA 128 1536 = true := by decide +kernel
theorem ck_13 : ckA 128 1664 = true := by decide +kernel
theorem ck_14 : ckA 128 1792 = true := by decide +kernel
theorem ck_15 : ckA 128 1920 = true := by decide +kernel
theorem ck_16 : ckA 128 2048 = true := by decide +kernel
theorem ck_17 : ckA 128 2176 = true := by decide +kernel
theorem ck_18 : ckA 128 2304 = true := by decide +kernel
theorem ck_19 : ckA 128 2432 = true := by decide +kernel
theorem ck_20 : ckA 128 2560 = true := by decide +kernel
theorem ck_21 : ckA 128 2688 = true := by decide +kernel
theorem ck_22 : ckA 128 2816 = true := by decide +kernel
theorem ck_23 : ckA 128 2944 = true := by decide +kernel
theorem ck_24 : ckA 128 3072 = true := by decide +kernel
theorem ck_25 : ckA 128 3200 = true := by decide +kernel
theorem ck_26 : ckA 128 3328 = true := by decide +kernel
theorem ck_27 : ckA 128 3456 = true := by decide +kernel
theorem ck_28 : ckA 128 3584 = true := by decide +kernel
theorem ck_29 : ckA 128 3712 = true := by decide +kernel
theorem ck_30 : ckA 128 3840 = true := by decide +kernel
theorem ck_31 : ckA 128 3968 = true := by decide +kernel
theorem ck_32 : ckA 128 4096 = true := by decide +kernel
theorem ck_33 : ckA 128 4224 = true := by decide +kernel
theorem ck_34 : ckA 128 4352 = true := by decide +kernel
theorem ck_35 : ckA 128 4480 = true := by decide +kernel
theorem ck_36 : ckA 128 4608 = true := by decide +kernel
theorem ck_37 : ckA 128 4736 = true := by decide +kernel
theorem ck_38 : ckA 128 4864 = true := by decide +kernel
theorem ck_39 : ckA 128 4992 = true := by decide +kernel
theorem ck_40 : ckA 128 5120 = true := by decide +kernel
theorem ck_41 : ckA 128 5248 = true := by decide +kernel
theorem ck_42 : ckA 128 5376 = true := by decide +kernel
theorem ck_43 : ckA 128 5504 = true := by decide +kernel
theorem ck_44 : ckA 128 5632 = true := by decide +kernel
theorem ck_45 : ckA 128 5760 = true := by decide +kernel
theorem ck_46 : ckA 128 5888 = true := by decide +kernel
theorem ck_47 : ckA 128 6016 = true := by decide +kernel
theorem ck_48 : ckA 128 6144 = true := by decide +kernel
theorem ck_49 : ckA 128 6272 = true := by decide +kernel
theorem ck_50 : ckA 128 6400 = true := by decide +kernel
theorem ck_51 : ckA 128 6528 = true := by decide +kernel
theorem ck_52 : ckA 128 6656 = true := by decide +kernel
theorem ck_53 : ckA 128 6784 = true := by decide +kernel
theorem ck_54 : ckA 128 6912 = true := by decide +kernel
theorem ck_55 : ckA 128 7040 = true := by decide +kernel
theorem ck_56 : ckA 128 7168 = true := by decide +kernel
theorem ck_57 : ckA 128 7296 = true := by decide +kernel
theorem ck_58 : ckA 128 7424 = true := by decide +kernel
theorem ck_59 : ckA 128 7552 = true := by decide +kernel
theorem ck_60 : ckA 128 7680 = true := by decide +kernel
theorem ck_61 : ckA 128 7808 = true := by decide +kernel
theorem ck_62 : ckA 128 7936 = true := by decide +kernel
theorem ck_63 : ckA 128 8064 = true := by decide +kernel
theorem ck_64 : ckA 128 8192 = true := by decide +kernel
theorem ck_65 : ckA 128 8320 = true := by decide +kernel
theorem ck_66 : ckA 128 8448 = true := by decide +kernel
theorem ck_67 : ckA 128 8576 = true := by decide +kernel
theorem ck_68 : ckA 128 8704 = true := by decide +kernel
theorem ck_69 : ckA 128 8832 = true := by decide +kernel
theorem ck_70 : ckA 128 8960 = true := by decide +kernel
theorem ck_71 : ckA 128 9088 = true := by decide +kernel
theorem ck_72 : ckA 128 9216 = true := by decide +kernel
theorem ck_73 : ckA 128 9344 = true := by decide +kernel
theorem ck_74 : ckA 128 9472 = true := by decide +kernel
theorem ck_75 : ckA 128 9600 = true := by decide +kernel
theorem ck_76 : ckA 128 9728 = true := by decide +kernel
theorem ck_77 : ckA 128 9856 = true := by decide +kernel
theorem ck_78 : ckA 128 9984 = true := by decide +kernel
theorem ck_79 : ckA 128 10112 = true := by decide +kernel
theorem ck_80 : ckA 128 10240 = true := by decide +kernel
theorem ck_81 : ckA 128 10368 = true := by decide +kernel
theorem ck_82 : ckA 128 10496 = true := by decide +kernel
theorem ck_83 : ckA 128 10624 = true := by decide +kernel
theorem ck_84 : ckA 128 10752 = true := by decide +kernel
theorem ck_85 : ckA 128 10880 = true := by decide +kernel
theorem ck_86 : ckA 128 11008 = true := by decide +kernel
theorem ck_87 : ckA 128 11136 = true := by decide +kernel
theorem ck_88 : ckA 128 11264 = true := by decide +kernel
theorem ck_89 : ckA 128 11392 = true := by decide +kernel
theorem ck_90 : ckA 128 11520 = true := by decide +kernel
theorem ck_91 : ckA 128 11648 = true := by decide +kernel
theorem ck_92 : ckA 128 11776 = true := by decide +kernel
theorem ck_93 : ckA 128 11904 = true := by decide +kernel
theorem ck_94 : ckA 128 12032 = true := by decide +kernel
theorem ck_95 : ckA 128 12160 = true := by decide +kernel
theorem ck_96 : ckA 128 12288 = true := by decide +kernel
theorem ck_97 : ckA 128 12416 = true := by decide +kernel
theorem ck_98 : ckA 128 12544 = true := by decide +kernel
theorem ck_99 : ckA 128 12672 = true := by decide +kernel
theorem ck_100 : ckA 128 12800 = true := by decide +kernel
theorem ck_101 : ckA 128 12928 = true := by decide +kernel
theorem ck_102 : ckA 128 13056 = true := by decide +kernel
theorem ck_103 : ckA 128 13184 = true := by decide +kernel
theorem ck_104 : ckA 128 13312 = true := by decide +kernel
theorem ck_105 : ckA 128 13440 = true := by decide +kernel
theorem ck_106 : ckA 128 13568 = true := by decide +kernel
theorem ck_107 : ckA 128 13696 = true := by decide +kernel
theorem ck_108 : ckA 128 13824 = true := by decide +kernel
theorem ck_109 : ckA 128 13952 = true := by decide +kernel
theorem ck_110 : ckA 128 14080 = true := by decide +kernel
theorem ck_111 : ckA 128 14208 = true := by decide +kernel
theorem ck_112 : ckA 128 14336 = true := by decide +kernel
theorem ck_113 : ckA 128 14464 = true := by decide +kernel
theorem ck_114 : ckA 128 14592 = true := by decide +kernel
theorem ck_115 : ckA 128 14720 = true := by decide +kernel
theorem ck_116 : ckA 128 14848 = true := by decide +kernel
theorem ck_117 : ckA 128 14976 = true := by decide +kernel
theorem ck_118 : ckA 128 15104 = true := by decide +kernel
theorem ck_119 : ckA 128 15232 = true := by decide +kernel
theorem ck_120 : ckA 128 15360 = true := by decide +kernel
theorem ck_121 : ckA 128 15488 = true := by decide +kernel
theorem ck_122 : ckA 128 15616 = true := by decide +kernel
theorem ck_123 : ckA 128 15744 = true := by decide +kernel
theorem ck_124 : ckA 128 15872 = true := by decide +kernel
theorem ck_125 : ckA 128 16000 = true := by decide +kernel
theorem ck_126 : ckA 128 16128 = true := by decide +kernel
theorem ck_127 : ckA 128 16256 = true := by decide +kernel
theorem ck_all {a : Nat} (h : a < 16384) : ckB a = true := by
  by_cases g64 : a < 8192
  · by_cases g32 : a < 4096
    · by_cases g16 : a < 2048
      · by_cases g8 : a < 1024
        · by_cases g4 : a < 512
          · by_cases g2 : a < 256
            · by_cases g1 : a < 128
              · exact ckA_ok _ _ a ck_0 (by omega) (by omega)
              · exact ckA_ok _ _ a ck_1 (by omega) (by omega)
            · by_cases g3 : a < 384
              · exact ckA_ok _ _ a ck_2 (by omega) (by omega)
              · exact ckA_ok _ _ a ck_3 (by omega) (by omega)
          · by_cases g6 : a < 768
            · by_cases g5 : a < 640
              · exact ckA_ok _ _ a ck_4 (by omega) (by omega)
              · exact ckA_ok _ _ a ck_5 (by omega) (by omega)
            · by_cases g7 : a < 896
              · exact ckA_ok _ _ a ck_6 (by omega) (by omega)
              · exact ckA_ok _ _ a ck_7 (by omega) (by omega)
        · by_cases g12 : a < 1536
          · by_cases g10 : a < 1280
            · by_cases g9 : a < 1152
              · exact ckA_ok _ _ a ck_8 (by omega) (by omega)
              · exact ckA_ok _ _ a ck_9 (by omega) (by omega)
            · by_cases g11 : a < 1408
              · exact ckA_ok _ _ a ck_10 (by omega) (by omega)
              · exact ckA_ok _ _ a ck_11 (by omega) (by omega)
          · by_cases g14 : a < 1792
            · by_cases g13 : a < 1664
              · exact ckA_ok _ _ a ck_12 (by omega) (by omega)
              · exact ckA_ok _ _ a ck_13 (by omega) (by omega)
            · by_cases g15 : a < 1920
              · exact ckA_ok _ _ a ck_14 (by omega) (by omega)
              · exact ckA_ok _ _ a ck_15 (by omega) (by omega)
      · by_cases g24 : a < 3072
        · by_cases g20 : a < 2560
          · by_cases g18 : a < 2304
            · by_cases g17 : a < 2176
              · exact ckA_ok _ _ a ck_16 (by omega) (by omega)
              · exact ckA_ok _ _ a ck_17 (by omega) (by omega)
            · by_cases g19 : a < 2432
              · exact ckA_ok _ _ a ck_18 (by omega) (by omega)
              · exact ckA_ok _ _ a ck_19 (by omega) (by omega)
          · by_cases g22 : a < 2816
            · by_cases g21 : a < 2688
              · exact ckA_ok _ _ a ck_20 (by omega) (by omega)
              · exact ckA_ok _ _ a ck_21 (by omega) (by omega)
            · by_cases g23 : a < 2944
              · exact ckA_ok _ _ a ck_22 (by omega) (by omega)
              · exact ckA_ok _ _ a ck_23 (by omega) (by omega)
        · by_cases g28 : a < 3584
          · by_cases g26 : a < 3328
            · by_cases g25 : a < 3200
              · exact ckA_ok _ _ a ck_24 (by omega) (by omega)
              · exact ckA_ok _ _ a ck_25 (by omega) (by omega)
            · by_cases g27 : a < 3456
              · exact ckA_ok _ _ a ck_26 (by omega) (by omega)
              · exact ckA_ok _ _ a ck_27 (by omega) (by omega)
          · by_cases g30 : a < 3840
            · by_cases g29 : a < 3712
              · exact ckA_ok _ _ a ck_28 (by omega) (by omega)
              · exact ckA_ok _ _ a ck_29 (by omega) (by omega)
            · by_cases g31 : a < 3968
              · exact ckA_ok _ _ a ck_30 (by omega) (by omega)
              · exact ckA_ok _ _ a ck_31 (by omega) (by omega)
    · by_cases g48 : a < 6144
      · by_cases g40 : a < 5120
        · by_cases g36 : a < 4608
          · by_cases g34 : a < 4352
            · by_cases g33 : a < 4224
              · exact ckA_ok _ _ a ck_32 (by omega) (by omega)
              · exact ckA_ok _ _ a ck_33 (by omega) (by omega)
            · by_cases g35 : a < 4480
              · exact ckA_ok _ _ a ck_34 (by omega) (by omega)
              · exact ckA_ok _ _ a ck_35 (by omega) (by omega)
          · by_cases g38 : a < 4864
            · by_cases g37 : a < 4736
              · exact ckA_ok _ _ a ck_36 (by omega) (by omega)
              · exact ckA_ok _ _ a ck_37 (by omega) (by omega)
            · by_cases g39 : a < 4992
              · exact ckA_ok _ _ a ck_38 (by omega) (by omega)
              · exact ckA_ok _ _ a ck_39 (by omega) (by omega)
        · by_cases g44 : a < 5632
          · by_cases g42 : a < 5376
            · by_cases g41 : a < 5248
              · exact ckA_ok _ _ a ck_40 (by omega) (by omega)
              · exact ckA_ok _ _ a ck_41 (by omega) (by omega)
            · by_cases g43 : a < 5504
              · exact ckA_ok _ _ a ck_42 (by omega) (by omega)
              · exact ckA_ok _ _ a ck_43 (by omega) (by omega)
          · by_cases g46 : a < 5888
            · by_cases g45 : a < 5760
              · exact ckA_ok _ _ a ck_44 (by omega) (by omega)
              · exact ckA_ok _ _ a ck_45 (by omega) (by omega)
            · by_cases g47 : a < 6016
              · exact ckA_ok _ _ a ck_46 (by omega) (by omega)
              · exact ckA_ok _ _ a ck_47 (by omega) (by omega)
      · by_cases g56 : a < 7168
        · by_cases g52 : a < 6656
          · by_cases g50 : a < 6400
            · by_cases g49 : a < 6272
              · exact ckA_ok _ _ a ck_48 (by omega) (by omega)
              · exact ckA_ok _ _ a ck_49 (by omega) (by omega)
            · by_cases g51 : a < 6528
              · exact ckA_ok _ _ a ck_50 (by omega) (by omega)
              · exact ckA_ok _ _ a ck_51 (by omega) (by omega)
          · by_cases g54 : a < 6912
            · by_cases g53 : a < 6784
              · exact ckA_ok _ _ a ck_52 (by omega) (by omega)
              · exact ckA_ok _ _ a ck_53 (by omega) (by omega)
            · by_cases g55 : a < 7040
              · exact ckA_ok _ _ a ck_54 (by omega) (by omega)
              · exact ckA_ok _ _ a ck_55 (by omega) (by omega)
        · by_cases g60 : a < 7680
          · by_cases g58 : a < 7424
            · by_cases g57 : a < 7296
              · exact ckA_ok _ _ a ck_56 (by omega) (by omega)
              · exact ckA_ok _ _ a ck_57 (by omega) (by omega)
            · by_cases g59 : a < 7552
              · exact ckA_ok _ _ a ck_58 (by omega) (by omega)
              · exact ckA_ok _ _ a ck_59 (by omega) (by omega)
          · by_cases g62 : a < 7936
            · by_cases g61 : a < 7808
              · exact ckA_ok _ _ a ck_60 (by omega) (by omega)
              · exact ckA_ok _ _ a ck_61 (by omega) (by omega)
            · by_cases g63 : a < 8064
              · exact ckA_ok _ _ a ck_62 (by omega) (by omega)
              · exact ckA_ok _ _ a ck_63 (by omega) (by omega)
  · by_cases g96 : a < 12288
    · by_cases g80 : a < 10240
      · by_cases g72 : a < 9216
        · by_cases g68 : a < 8704
          · by_cases g66 : a < 8448
            · by_cases g65 : a < 8320
              · exact ckA_ok _ _ a ck_64 (by omega) (by omega)
              · exact ckA_ok _ _ a ck_65 (by omega) (by omega)
            · by_cases g67 : a < 8576
              · exact ckA_ok _ _ a ck_66 (by omega) (by omega)
              · exact ckA_ok _ _ a ck_67 (by omega) (by omega)
          · by_cases g70 : a < 8960
            · by_cases g69 : a < 8832
              · exact ckA_ok _ _ a ck_68 (by omega) (by omega)
              · exact ckA_ok _ _ a ck_69 (by omega) (by omega)
            · by_cases g71 : a < 9088
              · exact ckA_ok _ _ a ck_70 (by omega) (by omega)
              · exact ckA_ok _ _ a ck_71 (by omega) (by omega)
        · by_cases g76 : a < 9728
          · by_cases g74 : a < 9472
            · by_cases g73 : a < 9344
              · exact ckA_ok _ _ a ck_72 (by omega) (by omega)
              · exact ckA_ok _ _ a ck_73 (by omega) (by omega)
            · by_cases g75 : a < 9600
              · exact ckA_ok _ _ a ck_74 (by omega) (by omega)
              · exact ckA_ok _ _ a ck_75 (by omega) (by omega)
          · by_cases g78 : a < 9984
            · by_cases g77 : a < 9856
              · exact ckA_ok _ _ a ck_76 (by omega) (by omega)
              · exact ckA_ok _ _ a ck_77 (by omega) (by omega)
            · by_cases g79 : a < 10112
              · exact ckA_ok _ _ a ck_78 (by omega) (by omega)
              · exact ckA_ok _ _ a ck_79 (by omega) (by omega)
      · by_cases g88 : a < 11264
        · by_cases g84 : a < 10752
          · by_cases g82 : a < 10496
            · by_cases g81 : a < 10368
              · exact ckA_ok _ _ a ck_80 (by omega) (by omega)
              · exact ckA_ok _ _ a ck_81 (by omega) (by omega)
            · by_cases g83 : a < 10624
              · exact ckA_ok _ _ a ck_82 (by omega) (by omega)
              · exact ckA_ok _ _ a ck_83 (by omega) (by omega)
          · by_cases g86 : a < 11008
            · by_cases g85 : a < 10880
              · exact ckA_ok _ _ a ck_84 (by omega) (by omega)
              · exact ckA_ok _ _ a ck_85 (by omega) (by omega)
            · by_cases g87 : a < 11136
              · exact ckA_ok _ _ a ck_86 (by omega) (by omega)
              · exact ckA_ok _ _ a ck_87 (by omega) (by omega)
        · by_cases g92 : a < 11776
          · by_cases g90 : a < 11520
            · by_cases g89 : a < 11392
              · exact ckA_ok _ _ a ck_88 (by omega) (by omega)
              · exact ckA_ok _ _ a ck_89 (by omega) (by omega)
            · by_cases g91 : a < 11648
              · exact ckA_ok _ _ a ck_90 (by omega) (by omega)
              · exact ckA_ok _ _ a ck_91 (by omega) (by omega)
          · by_cases g94 : a < 12032
            · by_cases g93 : a < 11904
              · exact ckA_ok _ _ a ck_92 (by omega) (by omega)
              · exact ckA_ok _ _ a ck_93 (by omega) (by omega)
            · by_cases g95 : a < 12160
              · exact ckA_ok _ _ a ck_94 (by omega) (by omega)
              · exact ckA_ok _ _ a ck_95 (by omega) (by omega)
    · by_cases g112 : a < 14336
      · by_cases g104 : a < 13312
        · by_cases g100 : a < 12800
          · by_cases g98 : a < 12544
            · by_cases g97 : a < 12416
              · exact ckA_ok _ _ a ck_96 (by omega) (by omega)
              · exact ckA_ok _ _ a ck_97 (by omega) (by omega)
            · by_cases g99 : a < 12672
              · exact ckA_ok _ _ a ck_98 (by omega) (by omega)
              · exact ckA_ok _ _ a ck_99 (by omega) (by omega)
          · by_cases g102 : a < 13056
            · by_cases g101 : a < 12928
              · exact ckA_ok _ _ a ck_100 (by omega) (by omega)
              · exact ckA_ok _ _ a ck_101 (by omega) (by omega)
            · by_cases g103 : a < 13184
              · exact ckA_ok _ _ a ck_102 (by omega) (by omega)
              · exact ckA_ok _ _ a ck_103 (by omega) (by omega)
        · by_cases g108 : a < 13824
          · by_cases g106 : a < 13568
            · by_cases g105 : a < 13440
              · exact ckA_ok _ _ a ck_104 (by omega) (by omega)
              · exact ckA_ok _ _ a ck_105 (by omega) (by omega)
            · by_cases g107 : a < 13696
              · exact ckA_ok _ _ a ck_106 (by omega) (by omega)
              · exact ckA_ok _ _ a ck_107 (by omega) (by omega)
          · by_cases g110 : a < 14080
            · by_cases g109 : a < 13952
              · exact ckA_ok _ _ a ck_108 (by omega) (by omega)
              · exact ckA_ok _ _ a ck_109 (by omega) (by omega)
            · by_cases g111 : a < 14208
              · exact ckA_ok _ _ a ck_110 (by omega) (by omega)
              · exact ckA_ok _ _ a ck_111 (by omega) (by omega)
      · by_cases g120 : a < 15360
        · by_cases g116 : a < 14848
          · by_cases g114 : a < 14592
            · by_cases g113 : a < 14464
              · exact ckA_ok _ _ a ck_112 (by omega) (by omega)
              · exact ckA_ok _ _ a ck_113 (by omega) (by omega)
            · by_cases g115 : a < 14720
              · exact ckA_ok _ _ a ck_114 (by omega) (by omega)
              · exact ckA_ok _ _ a ck_115 (by omega) (by omega)
          · by_cases g118 : a < 15104
            · by_cases g117 : a < 14976
              · exact ckA_ok _ _ a ck_116 (by omega) (by omega)
              · exact ckA_ok _ _ a ck_117 (by omega) (by omega)
            · by_cases g119 : a < 15232
              · exact ckA_ok _ _ a ck_118 (by omega) (by omega)
              · exact ckA_ok _ _ a ck_119 (by omega) (by omega)
        · by_cases g124 : a < 15872
          · by_cases g122 : a < 15616
            · by_cases g121 : a < 15488
              · exact ckA_ok _ _ a ck_120 (by omega) (by omega)
              · exact ckA_ok _ _ a ck_121 (by omega) (by omega)
            · by_cases g123 : a < 15744
              · exact ckA_ok _ _ a ck_122 (by omega) (by omega)
              · exact ckA_ok _ _ a ck_123 (by omega) (by omega)
          · by_cases g126 : a < 16128
            · by_cases g125 : a < 16000
              · exact ckA_ok _ _ a ck_124 (by omega) (by omega)
              · exact ckA_ok _ _ a ck_125 (by omega) (by omega)
            · by_cases g127 : a < 16256
              · exact ckA_ok _ _ a ck_126 (by omega) (by omega)
              · exact ckA_ok _ _ a ck_127 (by omega) (by omega)
theorem bc_ok {a : Nat} (h : a < 16384) : bcN a = pc14 a ∧ ((a >>> 1) &&& 1431655765) ≤ a := by
  have := ck_all h
  simp only [ckB, Bool.and_eq_true] at this
  exact ⟨Nat.eq_of_beq_eq_true this.1, Nat.le_of_ble_eq_true this.2.1⟩
theorem pc_low {a : Nat} (h : a < 16384) : (a = 0 ∨ pc14 a = pc14 (a &&& (a - 1)) + 1) ∧ (1 < pc14 a ↔ (a &&& (a - 1)) ≠ 0) := by
  have := ck_all h
  simp only [ckB, Bool.and_eq_true, Bool.or_eq_true, beq_iff_eq] at this
  obtain ⟨-, -, h1, h2⟩ := this
  refine ⟨h1.imp Nat.eq_of_beq_eq_true Nat.eq_of_beq_eq_true, ?_⟩
  constructor
  · intro q e
    have e2 : Nat.beq (a &&& (a - 1)) 0 = true := by rw [e]; rfl
    rw [e2] at h2
    have := Nat.le_of_ble_eq_true h2
    omega
  · intro q
    rcases Nat.lt_or_ge 1 (pc14 a) with z | z
    · exact z
    · have e2 : Nat.ble (pc14 a) 1 = true := Nat.ble_eq_true_of_le z
      rw [e2] at h2
      exact absurd (Nat.eq_of_beq_eq_true h2.symm) q
theorem xtwo_n {a : Nat} (ha : a < 2 ^ 31) : xand a ((a : Int) - 1) = ((a &&& (a - 1) : Nat) : Int) := by
  rcases Nat.eq_zero_or_pos a with h | h
  · subst h; decide
  · rw [show ((a : Int) - 1) = ((a - 1 : Nat) : Int) by omega]
    exact xand_n ha
end
section
abbrev mX2_timeOf : xC := mkC yX2_timeOf cX2_timeOf 2 (some .int) 1 100 0 0
set_option maxHeartbeats 4000000 in
set_option maxRecDepth 100000 in
theorem tX2_timeOf {n : Nat} {w : xW} {r a sz : Nat} {mo : Int} {f : Nat → Int} (h_r : w r = xO 2 [xr a, xi sz, xi mo]) (h_a : w a = xA 14 f) (hsz : sz ≤ 14) (hf : ∀ k, k < sz → 0 ≤ f k) {i : Int} : Ctr mX2_timeOf [xr r, xi i] n w (pI (fun v w2 => w2 = w ∧ v = if 0 ≤ i ∧ i < sz then f i.toNat / 12 else -4)) := by
  refine Ctr.of ykX2_timeOf rfl (Nat.le_of_ble_eq_true rfl) okI (fun hin hW => ?_)
  show Ex _ _ 0 0 n w 0 [some (xr r), some (xi i)] []
  refine ex_iload_n (pc := 0) dX2_timeOf_0 rfl ?_
  refine ex_if_lt (pc := 1) dX2_timeOf_1 (tgt := 24) (by decide) (fun c1 => ?_) (fun c1 => ?_)
  · refine ex_bipush (pc := 24) dX2_timeOf_24 (by decide) ?_
    exact ex_iret (pc := 26) dX2_timeOf_26 ⟨rfl, by first | rw [if_neg (by omega)] | rw [if_pos (by omega)]⟩ rfl (Nat.le_refl _)
  · refine ex_iload_n (pc := 4) dX2_timeOf_4 rfl ?_
    refine ex_aload_n (pc := 5) dX2_timeOf_5 rfl ?_
    refine ex_getfield (pc := 6) dX2_timeOf_6 fk_X2_15 h_r (by rfl) ?_
    refine ex_icmp_ge (pc := 9) dX2_timeOf_9 (tgt := 24) (by decide) (fun c9 => ?_) (fun c9 => ?_)
    · refine ex_bipush (pc := 24) dX2_timeOf_24 (by decide) ?_
      exact ex_iret (pc := 26) dX2_timeOf_26 ⟨rfl, by first | rw [if_neg (by omega)] | rw [if_pos (by omega)]⟩ rfl (Nat.le_refl _)
    · have hfi := hf i.toNat (by omega)
      refine ex_aload_n (pc := 12) dX2_timeOf_12 rfl ?_
      refine ex_getfield (pc := 13) dX2_timeOf_13 fk_X2_9 h_r (by rfl) ?_
      refine ex_iload_n (pc := 16) dX2_timeOf_16 rfl ?_
      refine ex_iaload (pc := 17) dX2_timeOf_17 h_a (by omega) (by omega) ?_
      refine ex_bipush (pc := 18) dX2_timeOf_18 (by decide) ?_
      refine ex_idiv (pc := 20) dX2_timeOf_20 (by omega) (by omega) ?_
      refine ex_goto (pc := 21) dX2_timeOf_21 (tgt := 26) (by decide) ?_
      exact ex_iret (pc := 26) dX2_timeOf_26 ⟨rfl, by first | rw [if_neg (by omega)] | rw [if_pos (by omega)]⟩ rfl (Nat.le_refl _)

abbrev mX2_pitchOf : xC := mkC yX2_pitchOf cX2_pitchOf 2 (some .int) 1 100 0 0
set_option maxHeartbeats 4000000 in
set_option maxRecDepth 100000 in
theorem tX2_pitchOf {n : Nat} {w : xW} {r a sz : Nat} {mo : Int} {f : Nat → Int} (h_r : w r = xO 2 [xr a, xi sz, xi mo]) (h_a : w a = xA 14 f) (hsz : sz ≤ 14) (hf : ∀ k, k < sz → 0 ≤ f k) {i : Int} : Ctr mX2_pitchOf [xr r, xi i] n w (pI (fun v w2 => w2 = w ∧ v = if 0 ≤ i ∧ i < sz then f i.toNat % 12 else -4)) := by
  refine Ctr.of ykX2_pitchOf rfl (Nat.le_of_ble_eq_true rfl) okI (fun hin hW => ?_)
  show Ex _ _ 0 0 n w 0 [some (xr r), some (xi i)] []
  refine ex_iload_n (pc := 0) dX2_pitchOf_0 rfl ?_
  refine ex_if_lt (pc := 1) dX2_pitchOf_1 (tgt := 24) (by decide) (fun c1 => ?_) (fun c1 => ?_)
  · refine ex_bipush (pc := 24) dX2_pitchOf_24 (by decide) ?_
    exact ex_iret (pc := 26) dX2_pitchOf_26 ⟨rfl, by first | rw [if_neg (by omega)] | rw [if_pos (by omega)]⟩ rfl (Nat.le_refl _)
  · refine ex_iload_n (pc := 4) dX2_pitchOf_4 rfl ?_
    refine ex_aload_n (pc := 5) dX2_pitchOf_5 rfl ?_
    refine ex_getfield (pc := 6) dX2_pitchOf_6 fk_X2_15 h_r (by rfl) ?_
    refine ex_icmp_ge (pc := 9) dX2_pitchOf_9 (tgt := 24) (by decide) (fun c9 => ?_) (fun c9 => ?_)
    · refine ex_bipush (pc := 24) dX2_pitchOf_24 (by decide) ?_
      exact ex_iret (pc := 26) dX2_pitchOf_26 ⟨rfl, by first | rw [if_neg (by omega)] | rw [if_pos (by omega)]⟩ rfl (Nat.le_refl _)
    · have hfi := hf i.toNat (by omega)
      refine ex_aload_n (pc := 12) dX2_pitchOf_12 rfl ?_
      refine ex_getfield (pc := 13) dX2_pitchOf_13 fk_X2_9 h_r (by rfl) ?_
      refine ex_iload_n (pc := 16) dX2_pitchOf_16 rfl ?_
      refine ex_iaload (pc := 17) dX2_pitchOf_17 h_a (by omega) (by omega) ?_
      refine ex_bipush (pc := 18) dX2_pitchOf_18 (by decide) ?_
      refine ex_irem (pc := 20) dX2_pitchOf_20 (by omega) (by omega) ?_
      refine ex_goto (pc := 21) dX2_pitchOf_21 (tgt := 26) (by decide) ?_
      exact ex_iret (pc := 26) dX2_pitchOf_26 ⟨rfl, by first | rw [if_neg (by omega)] | rw [if_pos (by omega)]⟩ rfl (Nat.le_refl _)

abbrev mX2_init : xC := mkC yX2_init cX2_init 1 none 1 100 1 14
set_option maxHeartbeats 4000000 in
set_option maxRecDepth 100000 in
theorem tX2_init {n : Nat} {w : xW} {r : Nat} {v0 v1 v2 : xV} (h_r : w r = xO 2 [v0, v1, v2]) (hrn : r ≠ n) : Ctr mX2_init [xr r] n w (pV (fun w2 => w2 = va_up (va_up w n (xA 14 (fun _ => 0))) r (xO 2 [xr n, v1, v2]))) := by
  refine Ctr.of ykX2_init rfl (Nat.le_of_ble_eq_true rfl) okV (fun hin hW => ?_)
  show Ex _ _ 0 0 n w 0 [some (xr r)] []
  refine ex_aload_n (pc := 0) dX2_init_0 rfl ?_
  refine ex_obj (pc := 1) dX2_init_1 wl_X2_3 (by decide) (Nat.le_of_ble_eq_true rfl) ?_
  refine ex_aload_n (pc := 4) dX2_init_4 rfl ?_
  refine ex_bipush (pc := 5) dX2_init_5 (by decide) ?_
  refine ex_newarr (pc := 7) dX2_init_7 (N := 14) rfl (by decide) (Nat.le_refl _) (Nat.le_refl _) ?_
  refine ex_putF (pc := 9) dX2_init_9 fk_X2_9 (ty := tyX2 0) (fun _ _ _ h9 => by cases h9; exact ⟨tyX2_ok 0 (by decide), rfl, rfl⟩) (fun _ _ _ h9 h8 => by cases h9; exact wk_X2_9) ((up_n hrn).trans h_r) (Nat.le_of_ble_eq_true rfl) (fun _ => rfl) (fun _ => rfl) rfl ?_
  exact ex_vret (pc := 12) dX2_init_12 rfl rfl (Nat.le_refl _)

def numOf (f : Nat → Int) (sz : Nat) (c v : Int) : Prop := (∃ k : Nat, k < sz ∧ v = k ∧ f k = c ∧ ∀ q, q < k → f q ≠ c) ∨ (v = -4 ∧ ∀ q, q < sz → f q ≠ c)
abbrev mX2_numberOf : xC := mkC yX2_numberOf cX2_numberOf 3 (some .int) 1 100 0 0
set_option maxHeartbeats 4000000 in
set_option maxRecDepth 100000 in
theorem tX2_numberOf {n : Nat} {w : xW} {r a sz : Nat} {mo : Int} {f : Nat → Int} (h_r : w r = xO 2 [xr a, xi sz, xi mo]) (h_a : w a = xA 14 f) (hsz : sz ≤ 14) {c : Int} : Ctr mX2_numberOf [xr r, xi c] n w (pI (fun v w2 => w2 = w ∧ numOf f sz c v)) := by
  refine Ctr.of ykX2_numberOf rfl (Nat.le_of_ble_eq_true rfl) okI (fun hin hW => ?_)
  show Ex _ _ 0 0 n w 0 [some (xr r), some (xi c), none] []
  have loop : ∀ (d k : Nat), k ≤ sz → sz + 1 ≤ k + d → (∀ q, q < k → f q ≠ c) → Ex mX2_numberOf (pI (fun v w2 => w2 = w ∧ numOf f sz c v)) 0 0 n w 2 [some (xr r), some (xi c), some (xi k)] [] := by
    intro d
    induction d with
    | zero => intro k h1 h2; omega
    | succ d ih =>
      intro k h1 h2 hq0
      refine ex_iload_n (pc := 2) dX2_numberOf_2 rfl ?_
      refine ex_aload_n (pc := 3) dX2_numberOf_3 rfl ?_
      refine ex_getfield (pc := 4) dX2_numberOf_4 fk_X2_15 h_r (by rfl) ?_
      refine ex_icmp_ge (pc := 7) dX2_numberOf_7 (tgt := 28) (by decide) (fun c7 => ?_) (fun c7 => ?_)
      · refine ex_bipush (pc := 28) dX2_numberOf_28 (by decide) ?_
        exact ex_iret (pc := 30) dX2_numberOf_30 ⟨rfl, Or.inr ⟨rfl, fun q hq => hq0 q (by omega)⟩⟩ rfl (Nat.le_refl _)
      · refine ex_aload_n (pc := 10) dX2_numberOf_10 rfl ?_
        refine ex_getfield (pc := 11) dX2_numberOf_11 fk_X2_9 h_r (by rfl) ?_
        refine ex_iload_n (pc := 14) dX2_numberOf_14 rfl ?_
        refine ex_iaload (pc := 15) dX2_numberOf_15 h_a (by omega) (by omega) ?_
        refine ex_iload_n (pc := 16) dX2_numberOf_16 rfl ?_
        refine ex_icmp_ne (pc := 17) dX2_numberOf_17 (tgt := 22) (by decide) (fun c17 => ?_) (fun c17 => ?_)
        · have hq1 : ∀ q, q < k + 1 → f q ≠ c := lt_s hq0 c17
          refine ex_iinc (L2 := [_, _, _]) (pc := 22) dX2_numberOf_22 rfl rfl (Nat.le_of_ble_eq_true rfl) (by unfold inI; omega) rfl ?_
          refine ex_goto (pc := 25) dX2_numberOf_25 (tgt := 2) (by decide) ?_
          exact ih (k + 1) (by omega) (by omega) hq1
        · refine ex_iload_n (pc := 20) dX2_numberOf_20 rfl ?_
          exact ex_iret (pc := 21) dX2_numberOf_21 ⟨rfl, Or.inl ⟨k, by omega, rfl, by simpa using c17, hq0⟩⟩ rfl (Nat.le_refl _)
  refine ex_iconst (pc := 0) dX2_numberOf_0 (by decide) ?_
  refine ex_istore_n (L2 := [_, _, _]) (pc := 1) dX2_numberOf_1 rfl (Nat.le_of_ble_eq_true rfl) rfl ?_
  exact loop (sz + 1) 0 (by omega) (by omega) (fun q hq => by omega)

def insF (f : Nat → Int) (p sz : Nat) (c : Int) : Nat → Int := fun i => if i < p then f i else if i = p then c else if i ≤ sz then f (i - 1) else f i
abbrev mX2_insert : xC := mkC yX2_insert cX2_insert 3 (some .int) 1 100 0 0
-- insert below
set_option maxHeartbeats 4000000 in
set_option maxRecDepth 100000 in
theorem tX2_insert {n : Nat} {w0 : xW} {r a sz : Nat} {mo : Int} {f : Nat → Int} (h_r : w0 r = xO 2 [xr a, xi sz, xi mo]) (h_a : w0 a = xA 14 f) (hsz : sz < 14) {c : Int} : Ctr mX2_insert [xr r, xi c] n w0 (pI (fun v w2 => ∃ p : Nat, p ≤ sz ∧ (∀ q, p ≤ q → q < sz → c < f q) ∧ (p = 0 ∨ f (p - 1) ≤ c) ∧ v = p ∧ w2 = va_up (va_up w0 a (xA 14 (insF f p sz c))) r (xO 2 [xr a, xi (sz + 1), xi mo]))) := by
  refine Ctr.of ykX2_insert rfl (Nat.le_of_ble_eq_true rfl) okI (fun hin hW => ?_)
  show Ex _ _ 0 0 n w0 0 [some (xr r), some (xi c), none] []
  have ne1 : a ≠ r := by rintro rfl; rw [h_a] at h_r; cases h_r
  have ne2 : r ≠ a := fun q => ne1 q.symm
  have loop : ∀ (d k : Nat), k ≤ sz → k + 1 ≤ d → ∀ (w : xW) (g : Nat → Int), (∀ i, g i = if i ≤ k then f i else if i ≤ sz then f (i - 1) else f i) → w a = xA 14 g → w r = xO 2 [xr a, xi sz, xi mo] → (∀ q, q ≠ a → w q = w0 q) → (∀ q, k ≤ q → q < sz → c < f q) → Ex mX2_insert (pI (fun v w2 => ∃ p : Nat, p ≤ sz ∧ (∀ q, p ≤ q → q < sz → c < f q) ∧ (p = 0 ∨ f (p - 1) ≤ c) ∧ v = p ∧ w2 = va_up (va_up w0 a (xA 14 (insF f p sz c))) r (xO 2 [xr a, xi (sz + 1), xi mo]))) 0 0 n w 17 [some (xr r), some (xi c), some (xi k)] [] := by
    intro d
    induction d with
    | zero => intro k h1 h2; omega
    | succ d ih =>
      intro k h1 h2 w g hg h_a h_r hfr hgtA
      refine ex_iload_n (pc := 17) dX2_insert_17 rfl ?_
      refine ex_if_le (pc := 18) dX2_insert_18 (tgt := 53) (by decide) (fun c18 => ?_) (fun c18 => ?_)
      · refine ex_aload_n (pc := 53) dX2_insert_53 rfl ?_
        refine ex_getfield (pc := 54) dX2_insert_54 fk_X2_9 h_r (by rfl) ?_
        refine ex_iload_n (pc := 57) dX2_insert_57 rfl ?_
        refine ex_iload_n (pc := 58) dX2_insert_58 rfl ?_
        refine ex_iastore (pc := 59) dX2_insert_59 h_a (by omega) (by omega) ?_
        refine ex_aload_n (pc := 60) dX2_insert_60 rfl ?_
        refine ex_dup (pc := 61) dX2_insert_61 rfl ?_
        refine ex_getfield (pc := 62) dX2_insert_62 fk_X2_15 ((up_n ne2).trans h_r) (by rfl) ?_
        refine ex_iconst (pc := 65) dX2_insert_65 (by decide) ?_
        refine ex_iadd (pc := 66) dX2_insert_66 (by unfold inI; omega) ?_
        refine ex_putA (pc := 67) dX2_insert_67 fk_X2_15 (ty := tyX2 1) (fun _ _ _ h9 => by cases h9; exact ⟨tyX2_ok 1 (by decide), rfl⟩) ((up_n ne2).trans h_r) (Nat.le_of_ble_eq_true rfl) (fun _ => rfl) (fun _ => rfl) ?_
        refine ex_iload_n (pc := 70) dX2_insert_70 rfl ?_
        exact ex_iret (pc := 71) dX2_insert_71 ⟨k, h1, hgtA, (Or.inl (by omega)), rfl, by
          funext q
          have hk1 : ((k : Int)).toNat = k := by omega
          by_cases q1 : q = r
          · subst q1; rw [up_s, up_s]; rfl
          · rw [up_n q1, up_n q1]
            by_cases q2 : q = a
            · subst q2
              rw [up_s, up_s]
              congr 2
              funext i
              simp only [va_up, hk1, insF, hg]
              by_cases e1 : i = k
              · subst e1; simp
              · rw [if_neg e1]
                by_cases e2 : i < k
                · rw [if_pos (by omega), if_pos e2]
                · rw [if_neg (by omega), if_neg e2, if_neg e1]
            · rw [up_n q2, up_n q2]; exact hfr q q2⟩ rfl (Nat.le_refl _)
      · refine ex_aload_n (pc := 21) dX2_insert_21 rfl ?_
        refine ex_getfield (pc := 22) dX2_insert_22 fk_X2_9 h_r (by rfl) ?_
        refine ex_iload_n (pc := 25) dX2_insert_25 rfl ?_
        refine ex_iconst (pc := 26) dX2_insert_26 (by decide) ?_
        refine ex_isub (pc := 27) dX2_insert_27 (by unfold inI; omega) ?_
        refine ex_iaload (pc := 28) dX2_insert_28 h_a (by omega) (by omega) ?_
        refine ex_iload_n (pc := 29) dX2_insert_29 rfl ?_
        refine ex_icmp_le (pc := 30) dX2_insert_30 (tgt := 53) (by decide) (fun c30 => ?_) (fun c30 => ?_)
        · have hp9 : f (k - 1) ≤ c := by
            have hk2 : ((k : Int) - 1).toNat = k - 1 := by omega
            rw [hk2, hg, if_pos (by omega)] at c30
            omega
          refine ex_aload_n (pc := 53) dX2_insert_53 rfl ?_
          refine ex_getfield (pc := 54) dX2_insert_54 fk_X2_9 h_r (by rfl) ?_
          refine ex_iload_n (pc := 57) dX2_insert_57 rfl ?_
          refine ex_iload_n (pc := 58) dX2_insert_58 rfl ?_
          refine ex_iastore (pc := 59) dX2_insert_59 h_a (by omega) (by omega) ?_
          refine ex_aload_n (pc := 60) dX2_insert_60 rfl ?_
          refine ex_dup (pc := 61) dX2_insert_61 rfl ?_
          refine ex_getfield (pc := 62) dX2_insert_62 fk_X2_15 ((up_n ne2).trans h_r) (by rfl) ?_
          refine ex_iconst (pc := 65) dX2_insert_65 (by decide) ?_
          refine ex_iadd (pc := 66) dX2_insert_66 (by unfold inI; omega) ?_
          refine ex_putA (pc := 67) dX2_insert_67 fk_X2_15 (ty := tyX2 1) (fun _ _ _ h9 => by cases h9; exact ⟨tyX2_ok 1 (by decide), rfl⟩) ((up_n ne2).trans h_r) (Nat.le_of_ble_eq_true rfl) (fun _ => rfl) (fun _ => rfl) ?_
          refine ex_iload_n (pc := 70) dX2_insert_70 rfl ?_
          exact ex_iret (pc := 71) dX2_insert_71 ⟨k, h1, hgtA, (Or.inr hp9), rfl, by
            funext q
            have hk1 : ((k : Int)).toNat = k := by omega
            by_cases q1 : q = r
            · subst q1; rw [up_s, up_s]; rfl
            · rw [up_n q1, up_n q1]
              by_cases q2 : q = a
              · subst q2
                rw [up_s, up_s]
                congr 2
                funext i
                simp only [va_up, hk1, insF, hg]
                by_cases e1 : i = k
                · subst e1; simp
                · rw [if_neg e1]
                  by_cases e2 : i < k
                  · rw [if_pos (by omega), if_pos e2]
                  · rw [if_neg (by omega), if_neg e2, if_neg e1]
              · rw [up_n q2, up_n q2]; exact hfr q q2⟩ rfl (Nat.le_refl _)
        · have hgt : c < f (k - 1) := by
            have hk2 : ((k : Int) - 1).toNat = k - 1 := by omega
            rw [hk2, hg, if_pos (by omega)] at c30
            omega
          refine ex_aload_n (pc := 33) dX2_insert_33 rfl ?_
          refine ex_getfield (pc := 34) dX2_insert_34 fk_X2_9 h_r (by rfl) ?_
          refine ex_iload_n (pc := 37) dX2_insert_37 rfl ?_
          refine ex_aload_n (pc := 38) dX2_insert_38 rfl ?_
          refine ex_getfield (pc := 39) dX2_insert_39 fk_X2_9 h_r (by rfl) ?_
          refine ex_iload_n (pc := 42) dX2_insert_42 rfl ?_
          refine ex_iconst (pc := 43) dX2_insert_43 (by decide) ?_
          refine ex_isub (pc := 44) dX2_insert_44 (by unfold inI; omega) ?_
          refine ex_iaload (pc := 45) dX2_insert_45 h_a (by omega) (by omega) ?_
          refine ex_iastore (pc := 46) dX2_insert_46 h_a (by omega) (by omega) ?_
          refine ex_up (fun w1 e_w1 => ?_)
          have h1_r := ((congrFun e_w1 r).trans (up_n (by first | assumption | decide | omega))).trans h_r
          have h1_a := (congrFun e_w1 a).trans up_s
          refine ex_iinc (L2 := [_, _, _]) (pc := 47) dX2_insert_47 rfl rfl (Nat.le_of_ble_eq_true rfl) (by unfold inI; omega) rfl ?_
          refine ex_goto (pc := 50) dX2_insert_50 (tgt := 17) (by decide) ?_
          rw [show ((k : Int) + -1) = ((k - 1 : Nat) : Int) by omega]
          exact ih (k - 1) (by omega) (by omega) w1 (fun i => if i ≤ k - 1 then f i else if i ≤ sz then f (i - 1) else f i) (fun i => rfl) (h1_a.trans (by
                  congr 2
                  funext i
                  have hk1 : ((k : Int)).toNat = k := by omega
                  have hk2 : ((k : Int) - 1).toNat = k - 1 := by omega
                  simp only [va_up, hk1, hk2, hg]
                  split <;> rename_i h9
                  · subst h9; rw [if_pos (by omega), if_neg (by omega), if_pos (by omega)]
                  · by_cases h8 : i ≤ k - 1
                    · rw [if_pos (by omega), if_pos h8]
                    · rw [if_neg (by omega), if_neg h8])) h1_r (fun q hq => (((congrFun e_w1 q).trans (up_n hq)).trans (hfr q hq))) (fun q h9 h8 => by
                  by_cases h7 : q = k - 1
                  · subst h7
                    have := hgt
                    omega
                  · exact hgtA q (by omega) h8)
  refine ex_aload_n (pc := 0) dX2_insert_0 rfl ?_
  refine ex_getfield (pc := 1) dX2_insert_1 fk_X2_15 h_r (by rfl) ?_
  refine ex_bipush (pc := 4) dX2_insert_4 (by decide) ?_
  refine ex_icmp_lt (pc := 6) dX2_insert_6 (tgt := 12) (by decide) (fun c6 => ?_) (fun c6 => by exfalso; omega)
  refine ex_aload_n (pc := 12) dX2_insert_12 rfl ?_
  refine ex_getfield (pc := 13) dX2_insert_13 fk_X2_15 h_r (by rfl) ?_
  refine ex_istore_n (L2 := [_, _, _]) (pc := 16) dX2_insert_16 rfl (Nat.le_of_ble_eq_true rfl) rfl ?_
  exact loop (sz + 1) sz (by omega) (by omega) w0 f (fun i => by split <;> simp_all) h_a h_r (fun _ _ => rfl) (fun q h1 h2 => by omega)
end
section
theorem two14 {sz : Nat} (h : sz ≤ 14) : 2 ^ sz ≤ 16384 := Nat.le_trans (Nat.pow_le_pow_right (by decide) h) (by decide)
abbrev mX2_allNotes : xC := mkC yX2_allNotes cX2_allNotes 1 (some .int) 1 100 0 0
set_option maxHeartbeats 4000000 in
set_option maxRecDepth 100000 in
theorem tX2_allNotes {n : Nat} {w : xW} {r a sz : Nat} {mo : Int} {f : Nat → Int} (h_r : w r = xO 2 [xr a, xi sz, xi mo]) (h_a : w a = xA 14 f) (hsz : sz ≤ 14) : Ctr mX2_allNotes [xr r] n w (pI (fun v w2 => w2 = w ∧ v = ((2 ^ sz - 1 : Nat) : Int))) := by
  refine Ctr.of ykX2_allNotes rfl (Nat.le_of_ble_eq_true rfl) okI (fun hin hW => ?_)
  show Ex _ _ 0 0 n w 0 [some (xr r)] []
  refine ex_iconst (pc := 0) dX2_allNotes_0 (by decide) ?_
  refine ex_aload_n (pc := 1) dX2_allNotes_1 rfl ?_
  refine ex_getfield (pc := 2) dX2_allNotes_2 fk_X2_15 h_r (by rfl) ?_
  refine ex_ishl (pc := 5) dX2_allNotes_5 ?_
  refine ex_eq (xshl_n sz (by omega)) ?_
  have hp := two14 hsz
  have hp1 : 1 ≤ 2 ^ sz := Nat.one_le_two_pow
  generalize hz : 2 ^ sz = z at hp hp1 ⊢
  refine ex_iconst (pc := 6) dX2_allNotes_6 (by decide) ?_
  refine ex_isub (pc := 7) dX2_allNotes_7 (by unfold inI; omega) ?_
  exact ex_iret (pc := 8) dX2_allNotes_8 ⟨rfl, by omega⟩ rfl (Nat.le_refl _)

def delF (f : Nat → Int) (p sz : Nat) : Nat → Int := fun i => if i < p then f i else if i + 1 < sz then f (i + 1) else f i
abbrev mX2_remove : xC := mkC yX2_remove cX2_remove 3 none 1 100 0 0
set_option maxHeartbeats 4000000 in
set_option maxRecDepth 100000 in
theorem tX2_remove {n : Nat} {W : xW} {r a sz : Nat} {mo : Int} {f : Nat → Int} (h_r : W r = xO 2 [xr a, xi sz, xi mo]) (h_a : W a = xA 14 f) (hsz : sz ≤ 14) {j : Nat} (hj : j < sz) : Ctr mX2_remove [xr r, xi j] n W (pV (fun w2 => w2 = va_up (va_up W r (xO 2 [xr a, xi (sz - 1 : Nat), xi mo])) a (xA 14 (delF f j sz)))) := by
  refine Ctr.of ykX2_remove rfl (Nat.le_of_ble_eq_true rfl) okV (fun hin hW => ?_)
  show Ex _ _ 0 0 n W 0 [some (xr r), some (xi j), none] []
  have ne1 : a ≠ r := by rintro rfl; rw [h_a] at h_r; cases h_r
  have ne2 : r ≠ a := fun q => ne1 q.symm
  have loop : ∀ (d k : Nat), k + 1 ≤ sz → sz ≤ k + d → j ≤ k → ∀ (w : xW) (g : Nat → Int), (∀ i, g i = if i < j then f i else if i < k then f (i + 1) else f i) → w a = xA 14 g → w r = xO 2 [xr a, xi (sz - 1 : Nat), xi mo] → (∀ q, q ≠ a → w q = va_up W r (xO 2 [xr a, xi (sz - 1 : Nat), xi mo]) q) → Ex mX2_remove (pV (fun w2 => w2 = va_up (va_up W r (xO 2 [xr a, xi (sz - 1 : Nat), xi mo])) a (xA 14 (delF f j sz)))) 0 0 n w 25 [some (xr r), some (xi j), some (xi k)] [] := by
    intro d
    induction d with
    | zero => intro k h1 h2; omega
    | succ d ih =>
      intro k h1 h2 h3 w g hg h_a h_r hfr
      refine ex_iload_n (pc := 25) dX2_remove_25 rfl ?_
      refine ex_aload_n (pc := 26) dX2_remove_26 rfl ?_
      refine ex_getfield (pc := 27) dX2_remove_27 fk_X2_15 h_r (by rfl) ?_
      refine ex_icmp_ge (pc := 30) dX2_remove_30 (tgt := 53) (by decide) (fun c30 => ?_) (fun c30 => ?_)
      · exact ex_vret (pc := 53) dX2_remove_53 (by
  funext q
  by_cases q1 : q = a
  · subst q1
    rw [up_s]
    rw [h_a]
    congr 2
    funext i
    rw [hg]
    unfold delF
    by_cases h8 : i < j
    · rw [if_pos h8, if_pos h8]
    · rw [if_neg h8, if_neg h8]
      by_cases h7 : i < k
      · rw [if_pos h7, if_pos (by omega)]
      · rw [if_neg h7, if_neg (by omega)]
  · rw [up_n q1, hfr q q1]) rfl (Nat.le_refl _)
      · refine ex_aload_n (pc := 33) dX2_remove_33 rfl ?_
        refine ex_getfield (pc := 34) dX2_remove_34 fk_X2_9 h_r (by rfl) ?_
        refine ex_iload_n (pc := 37) dX2_remove_37 rfl ?_
        refine ex_aload_n (pc := 38) dX2_remove_38 rfl ?_
        refine ex_getfield (pc := 39) dX2_remove_39 fk_X2_9 h_r (by rfl) ?_
        refine ex_iload_n (pc := 42) dX2_remove_42 rfl ?_
        refine ex_iconst (pc := 43) dX2_remove_43 (by decide) ?_
        refine ex_iadd (pc := 44) dX2_remove_44 (by unfold inI; omega) ?_
        refine ex_iaload (pc := 45) dX2_remove_45 h_a (by omega) (by omega) ?_
        refine ex_iastore (pc := 46) dX2_remove_46 h_a (by omega) (by omega) ?_
        refine ex_up (fun w1 e_w1 => ?_)
        have h1_r := ((congrFun e_w1 r).trans (up_n (by first | assumption | decide | omega))).trans h_r
        have h1_a := (congrFun e_w1 a).trans up_s
        refine ex_iinc (L2 := [_, _, _]) (pc := 47) dX2_remove_47 rfl rfl (Nat.le_of_ble_eq_true rfl) (by unfold inI; omega) rfl ?_
        refine ex_goto (pc := 50) dX2_remove_50 (tgt := 25) (by decide) ?_
        exact ih (k + 1) (by omega) (by omega) (by omega) w1 (fun i => if i < j then f i else if i < k + 1 then f (i + 1) else f i) (fun i => rfl) (h1_a.trans (by
          congr 2
          funext i
          have hk1 : ((k : Int)).toNat = k := by omega
          have hk2 : ((k : Int) + 1).toNat = k + 1 := by omega
          simp only [va_up, hk1, hk2, hg]
          by_cases h9 : i = k
          · subst h9; rw [if_pos rfl, if_neg (by omega), if_neg (by omega), if_neg (by omega), if_pos (by omega)]
          · rw [if_neg h9]
            by_cases h8 : i < j
            · rw [if_pos h8, if_pos h8]
            · rw [if_neg h8, if_neg h8]
              by_cases h7 : i < k
              · rw [if_pos h7, if_pos (by omega)]
              · rw [if_neg h7, if_neg (by omega)])) h1_r (fun q hq => (((congrFun e_w1 q).trans (up_n hq)).trans (hfr q hq)))
  refine ex_iload_n (pc := 0) dX2_remove_0 rfl ?_
  refine ex_if_lt (pc := 1) dX2_remove_1 (tgt := 12) (by decide) (fun c1 => by exfalso; omega) (fun c1 => ?_)
  refine ex_iload_n (pc := 4) dX2_remove_4 rfl ?_
  refine ex_aload_n (pc := 5) dX2_remove_5 rfl ?_
  refine ex_getfield (pc := 6) dX2_remove_6 fk_X2_15 h_r (by rfl) ?_
  refine ex_icmp_lt (pc := 9) dX2_remove_9 (tgt := 13) (by decide) (fun c9 => ?_) (fun c9 => by exfalso; omega)
  refine ex_aload_n (pc := 13) dX2_remove_13 rfl ?_
  refine ex_dup (pc := 14) dX2_remove_14 rfl ?_
  refine ex_getfield (pc := 15) dX2_remove_15 fk_X2_15 h_r (by rfl) ?_
  refine ex_iconst (pc := 18) dX2_remove_18 (by decide) ?_
  refine ex_isub (pc := 19) dX2_remove_19 (by unfold inI; omega) ?_
  refine ex_putA (pc := 20) dX2_remove_20 fk_X2_15 (ty := tyX2 1) (fun _ _ _ h9 => by cases h9; exact ⟨tyX2_ok 1 (by decide), rfl⟩) h_r (Nat.le_of_ble_eq_true rfl) (fun _ => rfl) (fun _ => rfl) ?_
  refine ex_up (fun w1 e_w1 => ?_)
  have h1_r := (congrFun e_w1 r).trans up_s
  have h1_a := ((congrFun e_w1 a).trans (up_n (by first | assumption | decide | omega))).trans h_a
  refine ex_iload_n (pc := 23) dX2_remove_23 rfl ?_
  refine ex_istore_n (L2 := [_, _, _]) (pc := 24) dX2_remove_24 rfl (Nat.le_of_ble_eq_true rfl) rfl ?_
  have e9 : ((sz : Int) - 1) = ((sz - 1 : Nat) : Int) := by omega
  exact loop sz j (by omega) (by omega) (by omega) w1 f (fun i => by split <;> rfl) h1_a (h1_r.trans (by rw [e9]; rfl)) (fun q hq => by rw [e_w1, e9]; rfl)

abbrev mX2_moveAll : xC := mkC yX2_moveAll cX2_moveAll 3 none 1 100 0 0
set_option maxHeartbeats 4000000 in
set_option maxRecDepth 100000 in
theorem tX2_moveAll {n : Nat} {W : xW} {r a sz : Nat} {mo : Int} {f : Nat → Int} (h_r : W r = xO 2 [xr a, xi sz, xi mo]) (h_a : W a = xA 14 f) (hsz : sz ≤ 14) {b : Int} (hb : -1000 ≤ b ∧ b ≤ 1000) (hf : ∀ k, k < sz → -1000 ≤ f k ∧ f k ≤ 1000) : Ctr mX2_moveAll [xr r, xi b] n W (pV (fun w2 => w2 = va_up W a (xA 14 (fun i => if i < sz then f i + b else f i)))) := by
  refine Ctr.of ykX2_moveAll rfl (Nat.le_of_ble_eq_true rfl) okV (fun hin hW => ?_)
  show Ex _ _ 0 0 n W 0 [some (xr r), some (xi b), none] []
  have ne1 : a ≠ r := by rintro rfl; rw [h_a] at h_r; cases h_r
  have ne2 : r ≠ a := fun q => ne1 q.symm
  have loop : ∀ (d k : Nat), k ≤ sz → sz + 1 ≤ k + d → ∀ (w : xW) (g : Nat → Int), (∀ i, g i = if i < k then f i + b else f i) → w a = xA 14 g → w r = xO 2 [xr a, xi sz, xi mo] → (∀ q, q ≠ a → w q = W q) → Ex mX2_moveAll (pV (fun w2 => w2 = va_up W a (xA 14 (fun i => if i < sz then f i + b else f i)))) 0 0 n w 2 [some (xr r), some (xi b), some (xi k)] [] := by
    intro d
    induction d with
    | zero => intro k h1 h2; omega
    | succ d ih =>
      intro k h1 h2 w g hg h_a h_r hfr
      refine ex_iload_n (pc := 2) dX2_moveAll_2 rfl ?_
      refine ex_aload_n (pc := 3) dX2_moveAll_3 rfl ?_
      refine ex_getfield (pc := 4) dX2_moveAll_4 fk_X2_15 h_r (by rfl) ?_
      refine ex_icmp_ge (pc := 7) dX2_moveAll_7 (tgt := 26) (by decide) (fun c7 => ?_) (fun c7 => ?_)
      · exact ex_vret (pc := 26) dX2_moveAll_26 (by
  have hks : k = sz := by omega
  subst hks
  funext q
  by_cases q1 : q = a
  · subst q1
    rw [up_s, h_a]
    congr 2
    funext i
    exact hg i
  · rw [up_n q1, hfr q q1]) rfl (Nat.le_refl _)
      · refine ex_aload_n (pc := 10) dX2_moveAll_10 rfl ?_
        refine ex_getfield (pc := 11) dX2_moveAll_11 fk_X2_9 h_r (by rfl) ?_
        refine ex_iload_n (pc := 14) dX2_moveAll_14 rfl ?_
        refine ex_dup2 (pc := 15) dX2_moveAll_15 rfl rfl ?_
        refine ex_iaload (pc := 16) dX2_moveAll_16 h_a (by omega) (by omega) ?_
        refine ex_iload_n (pc := 17) dX2_moveAll_17 rfl ?_
        have hk1 : ((k : Int)).toNat = k := by omega
        have hgk : g k = f k := by rw [hg, if_neg (by omega)]
        have hfk := hf k (by omega)
        refine ex_iadd (pc := 18) dX2_moveAll_18 (by rw [hk1, hgk]; unfold inI; omega) ?_
        refine ex_iastore (pc := 19) dX2_moveAll_19 h_a (by omega) (by omega) ?_
        refine ex_up (fun w1 e_w1 => ?_)
        have h1_r := ((congrFun e_w1 r).trans (up_n (by first | assumption | decide | omega))).trans h_r
        have h1_a := (congrFun e_w1 a).trans up_s
        refine ex_iinc (L2 := [_, _, _]) (pc := 20) dX2_moveAll_20 rfl rfl (Nat.le_of_ble_eq_true rfl) (by unfold inI; omega) rfl ?_
        refine ex_goto (pc := 23) dX2_moveAll_23 (tgt := 2) (by decide) ?_
        exact ih (k + 1) (by omega) (by omega) w1 (fun i => if i < k + 1 then f i + b else f i) (fun i => rfl) (h1_a.trans (by
          congr 2
          funext i
          have hk1 : ((k : Int)).toNat = k := by omega
          simp only [va_up, hk1, hg]
          by_cases h9 : i = k
          · subst h9; rw [if_pos rfl, if_neg (by omega), if_pos (by omega)]
          · rw [if_neg h9]
            by_cases h8 : i < k
            · rw [if_pos h8, if_pos (by omega)]
            · rw [if_neg h8, if_neg (by omega)])) h1_r (fun q hq => (((congrFun e_w1 q).trans (up_n hq)).trans (hfr q hq)))
  refine ex_iconst (pc := 0) dX2_moveAll_0 (by decide) ?_
  refine ex_istore_n (L2 := [_, _, _]) (pc := 1) dX2_moveAll_1 rfl (Nat.le_of_ble_eq_true rfl) rfl ?_
  exact loop (sz + 1) 0 (by omega) (by omega) W f (fun i => by split <;> first | rfl | omega) h_a h_r (fun _ _ => rfl)

abbrev mX2_copyFrom : xC := mkC yX2_copyFrom cX2_copyFrom 2 none 1 100 0 0
set_option maxHeartbeats 4000000 in
set_option maxRecDepth 100000 in
theorem tX2_copyFrom {n : Nat} {w : xW} {r a s b : Nat} {u1 u2 v1 v2 : xV} {f g : Nat → Int} (h_r : w r = xO 2 [xr a, u1, u2]) (h_a : w a = xA 14 f) (h_s : w s = xO 2 [xr b, v1, v2]) (h_b : w b = xA 14 g) (hv1 : ∃ i, v1 = xi i) (hv2 : ∃ i, v2 = xi i) (hrs : r ≠ s) (hab : a ≠ b) : Ctr mX2_copyFrom [xr r, xr s] n w (pV (fun w2 => w2 = va_up (va_up (va_up w a (xA 14 (fun q => if q < 14 then g q else f q))) r (xO 2 [xr a, v1, u2])) r (xO 2 [xr a, v1, v2]))) := by
  refine Ctr.of ykX2_copyFrom rfl (Nat.le_of_ble_eq_true rfl) okV (fun hin hW => ?_)
  have ne1 : a ≠ r := by rintro rfl; rw [h_a] at h_r; cases h_r
  have ne2 : r ≠ a := fun q => ne1 q.symm
  have ne3 : s ≠ a := by rintro rfl; rw [h_a] at h_s; cases h_s
  have ne4 : b ≠ a := fun q => hab q.symm
  have ne5 : b ≠ r := by rintro rfl; rw [h_b] at h_r; cases h_r
  have ne6 : s ≠ r := fun q => hrs q.symm
  obtain ⟨j1, rfl⟩ := hv1
  obtain ⟨j2, rfl⟩ := hv2
  show Ex _ _ 0 0 n w 0 [some (xr r), some (xr s)] []
  refine ex_aload_n (pc := 0) dX2_copyFrom_0 rfl ?_
  refine ex_getfield (pc := 1) dX2_copyFrom_1 fk_X2_9 h_s (by rfl) ?_
  refine ex_iconst (pc := 4) dX2_copyFrom_4 (by decide) ?_
  refine ex_aload_n (pc := 5) dX2_copyFrom_5 rfl ?_
  refine ex_getfield (pc := 6) dX2_copyFrom_6 fk_X2_9 h_r (by rfl) ?_
  refine ex_iconst (pc := 9) dX2_copyFrom_9 (by decide) ?_
  refine ex_bipush (pc := 10) dX2_copyFrom_10 (by decide) ?_
  refine ex_copy (pc := 12) dX2_copyFrom_12 wl_X2_19 h_b h_a rfl rfl rfl (by decide) (by decide) (by decide) (by decide +kernel) ?_
  refine ex_up (fun w1 e_w1 => ?_)
  have h1_r := ((congrFun e_w1 r).trans (up_n (by first | assumption | decide | omega))).trans h_r
  have h1_a := (congrFun e_w1 a).trans up_s
  have h1_s := ((congrFun e_w1 s).trans (up_n (by first | assumption | decide | omega))).trans h_s
  have h1_b := ((congrFun e_w1 b).trans (up_n (by first | assumption | decide | omega))).trans h_b
  refine ex_aload_n (pc := 15) dX2_copyFrom_15 rfl ?_
  refine ex_aload_n (pc := 16) dX2_copyFrom_16 rfl ?_
  refine ex_getfield (pc := 17) dX2_copyFrom_17 fk_X2_15 h1_s (by rfl) ?_
  refine ex_putA (pc := 20) dX2_copyFrom_20 fk_X2_15 (ty := tyX2 1) (fun _ _ _ h9 => by cases h9; exact ⟨tyX2_ok 1 (by decide), rfl⟩) h1_r (Nat.le_of_ble_eq_true rfl) (fun _ => rfl) (fun _ => rfl) ?_
  refine ex_up (fun w2 e_w2 => ?_)
  have h2_r := (congrFun e_w2 r).trans up_s
  have h2_a := ((congrFun e_w2 a).trans (up_n (by first | assumption | decide | omega))).trans h1_a
  have h2_s := ((congrFun e_w2 s).trans (up_n (by first | assumption | decide | omega))).trans h1_s
  have h2_b := ((congrFun e_w2 b).trans (up_n (by first | assumption | decide | omega))).trans h1_b
  refine ex_aload_n (pc := 23) dX2_copyFrom_23 rfl ?_
  refine ex_aload_n (pc := 24) dX2_copyFrom_24 rfl ?_
  refine ex_getfield (pc := 25) dX2_copyFrom_25 fk_X2_25 h2_s (by rfl) ?_
  refine ex_putA (pc := 28) dX2_copyFrom_28 fk_X2_25 (ty := tyX2 2) (fun _ _ _ h9 => by cases h9; exact ⟨tyX2_ok 2 (by decide), rfl⟩) h2_r (Nat.le_of_ble_eq_true rfl) (fun _ => rfl) (fun _ => rfl) ?_
  refine ex_up (fun w3 e_w3 => ?_)
  have h3_r := (congrFun e_w3 r).trans up_s
  have h3_a := ((congrFun e_w3 a).trans (up_n (by first | assumption | decide | omega))).trans h2_a
  have h3_s := ((congrFun e_w3 s).trans (up_n (by first | assumption | decide | omega))).trans h2_s
  have h3_b := ((congrFun e_w3 b).trans (up_n (by first | assumption | decide | omega))).trans h2_b
  exact ex_vret (pc := 31) dX2_copyFrom_31 (by subst e_w3 e_w2 e_w1; rfl) rfl (Nat.le_refl _)
end
section
theorem zz1 {P : Prop} (h : P) : (((1 : Int) = 0 ∨ (1 : Int) = 1) ∧ ((1 : Int) = 1 ↔ P)) := ⟨Or.inr rfl, fun _ => h, fun _ => rfl⟩
abbrev mX6_isWithin : xC := mkC yX6_isWithin cX6_isWithin 2 (some .boolean) 1 100 0 0
set_option maxHeartbeats 4000000 in
set_option maxRecDepth 100000 in
theorem tX6_isWithin {n : Nat} {w : xW} {a b : Int} : Ctr mX6_isWithin [xi a, xi b] n w (pZ (fun v w2 => w2 = w ∧ (v = 1 ↔ 0 ≤ a ∧ a < 20 ∧ 0 ≤ b ∧ b < 12))) := by
  refine Ctr.of ykX6_isWithin rfl (Nat.le_of_ble_eq_true rfl) okZ (fun hin hW => ?_)
  show Ex _ _ 0 0 n w 0 [some (xi a), some (xi b)] []
  refine ex_iload_n (pc := 0) dX6_isWithin_0 rfl ?_
  refine ex_if_lt (pc := 1) dX6_isWithin_1 (tgt := 24) (by decide) (fun c1 => ?_) (fun c1 => ?_)
  · refine ex_iconst (pc := 24) dX6_isWithin_24 (by decide) ?_
    exact ex_zret (pc := 25) dX6_isWithin_25 ⟨by omega, rfl, by omega⟩ rfl (Nat.le_refl _)
  · refine ex_iload_n (pc := 4) dX6_isWithin_4 rfl ?_
    refine ex_bipush (pc := 5) dX6_isWithin_5 (by decide) ?_
    refine ex_icmp_ge (pc := 7) dX6_isWithin_7 (tgt := 24) (by decide) (fun c7 => ?_) (fun c7 => ?_)
    · refine ex_iconst (pc := 24) dX6_isWithin_24 (by decide) ?_
      exact ex_zret (pc := 25) dX6_isWithin_25 ⟨by omega, rfl, by omega⟩ rfl (Nat.le_refl _)
    · refine ex_iload_n (pc := 10) dX6_isWithin_10 rfl ?_
      refine ex_if_lt (pc := 11) dX6_isWithin_11 (tgt := 24) (by decide) (fun c11 => ?_) (fun c11 => ?_)
      · refine ex_iconst (pc := 24) dX6_isWithin_24 (by decide) ?_
        exact ex_zret (pc := 25) dX6_isWithin_25 ⟨by omega, rfl, by omega⟩ rfl (Nat.le_refl _)
      · refine ex_iload_n (pc := 14) dX6_isWithin_14 rfl ?_
        refine ex_bipush (pc := 15) dX6_isWithin_15 (by decide) ?_
        refine ex_icmp_ge (pc := 17) dX6_isWithin_17 (tgt := 24) (by decide) (fun c17 => ?_) (fun c17 => ?_)
        · refine ex_iconst (pc := 24) dX6_isWithin_24 (by decide) ?_
          exact ex_zret (pc := 25) dX6_isWithin_25 ⟨by omega, rfl, by omega⟩ rfl (Nat.le_refl _)
        · refine ex_iconst (pc := 20) dX6_isWithin_20 (by decide) ?_
          refine ex_goto (pc := 21) dX6_isWithin_21 (tgt := 25) (by decide) ?_
          exact ex_zret (pc := 25) dX6_isWithin_25 ⟨by omega, rfl, by omega⟩ rfl (Nat.le_refl _)

abbrev mX6_codeOf : xC := mkC yX6_codeOf cX6_codeOf 2 (some .int) 1 100 0 0
set_option maxHeartbeats 4000000 in
set_option maxRecDepth 100000 in
theorem tX6_codeOf {n : Nat} {w : xW} {a b : Int} (h : -100000 ≤ a ∧ a ≤ 100000 ∧ -100000 ≤ b ∧ b ≤ 100000) : Ctr mX6_codeOf [xi a, xi b] n w (pI (fun v w2 => w2 = w ∧ v = a * 12 + b)) := by
  refine Ctr.of ykX6_codeOf rfl (Nat.le_of_ble_eq_true rfl) okI (fun hin hW => ?_)
  show Ex _ _ 0 0 n w 0 [some (xi a), some (xi b)] []
  refine ex_iload_n (pc := 0) dX6_codeOf_0 rfl ?_
  refine ex_bipush (pc := 1) dX6_codeOf_1 (by decide) ?_
  refine ex_imul (pc := 3) dX6_codeOf_3 (by unfold inI; omega) ?_
  refine ex_iload_n (pc := 4) dX6_codeOf_4 rfl ?_
  refine ex_iadd (pc := 5) dX6_codeOf_5 (by unfold inI; omega) ?_
  exact ex_iret (pc := 6) dX6_codeOf_6 ⟨rfl, rfl⟩ rfl (Nat.le_refl _)

abbrev mX5_has : xC := mkC yX5_has cX5_has 2 (some .boolean) 1 100 0 0
set_option maxHeartbeats 4000000 in
set_option maxRecDepth 100000 in
theorem tX5_has {n : Nat} {w : xW} {a q : Nat} (ha : a < 2 ^ 31) (hn : q < 31) : Ctr mX5_has [xi a, xi q] n w (pZ (fun v w2 => w2 = w ∧ (v = 1 ↔ a.testBit q = true))) := by
  refine Ctr.of ykX5_has rfl (Nat.le_of_ble_eq_true rfl) okZ (fun hin hW => ?_)
  show Ex _ _ 0 0 n w 0 [some (xi a), some (xi q)] []
  refine ex_iload_n (pc := 0) dX5_has_0 rfl ?_
  refine ex_iload_n (pc := 1) dX5_has_1 rfl ?_
  refine ex_ishr (pc := 2) dX5_has_2 ?_
  refine ex_iconst (pc := 3) dX5_has_3 (by decide) ?_
  refine ex_iand (pc := 4) dX5_has_4 ?_
  refine ex_eq (xhas_n ha hn) ?_
  refine ex_if_eq (pc := 5) dX5_has_5 (tgt := 12) (by decide) (fun c5 => ?_) (fun c5 => ?_)
  · refine ex_iconst (pc := 12) dX5_has_12 (by decide) ?_
    exact ex_zret (pc := 13) dX5_has_13 ⟨by omega, rfl, by by_cases hb : a.testBit q <;> simp_all⟩ rfl (Nat.le_refl _)
  · refine ex_iconst (pc := 8) dX5_has_8 (by decide) ?_
    refine ex_goto (pc := 9) dX5_has_9 (tgt := 13) (by decide) ?_
    exact ex_zret (pc := 13) dX5_has_13 ⟨by omega, rfl, by by_cases hb : a.testBit q <;> simp_all⟩ rfl (Nat.le_refl _)

abbrev mX7_has : xC := mkC yX7_has cX7_has 2 (some .boolean) 1 100 0 0
set_option maxHeartbeats 4000000 in
set_option maxRecDepth 100000 in
theorem tX7_has {n : Nat} {w : xW} {a q : Nat} (ha : a < 2 ^ 31) (hn : q < 31) : Ctr mX7_has [xi a, xi q] n w (pZ (fun v w2 => w2 = w ∧ (v = 1 ↔ a.testBit q = true))) := by
  refine Ctr.of ykX7_has rfl (Nat.le_of_ble_eq_true rfl) okZ (fun hin hW => ?_)
  show Ex _ _ 0 0 n w 0 [some (xi a), some (xi q)] []
  refine ex_iload_n (pc := 0) dX7_has_0 rfl ?_
  refine ex_iload_n (pc := 1) dX7_has_1 rfl ?_
  refine ex_ishr (pc := 2) dX7_has_2 ?_
  refine ex_iconst (pc := 3) dX7_has_3 (by decide) ?_
  refine ex_iand (pc := 4) dX7_has_4 ?_
  refine ex_eq (xhas_n ha hn) ?_
  refine ex_iconst (pc := 5) dX7_has_5 (by decide) ?_
  refine ex_icmp_ne (pc := 6) dX7_has_6 (tgt := 13) (by decide) (fun c6 => ?_) (fun c6 => ?_)
  · refine ex_iconst (pc := 13) dX7_has_13 (by decide) ?_
    exact ex_zret (pc := 14) dX7_has_14 ⟨by omega, rfl, by by_cases hb : a.testBit q <;> simp_all⟩ rfl (Nat.le_refl _)
  · refine ex_iconst (pc := 9) dX7_has_9 (by decide) ?_
    refine ex_goto (pc := 10) dX7_has_10 (tgt := 14) (by decide) ?_
    exact ex_zret (pc := 14) dX7_has_14 ⟨by omega, rfl, by by_cases hb : a.testBit q <;> simp_all⟩ rfl (Nat.le_refl _)

abbrev mX5_hasTwo : xC := mkC yX5_hasTwo cX5_hasTwo 1 (some .boolean) 1 100 0 0
set_option maxHeartbeats 4000000 in
set_option maxRecDepth 100000 in
theorem tX5_hasTwo {n : Nat} {w : xW} {a : Nat} (ha : a < 2 ^ 31) : Ctr mX5_hasTwo [xi a] n w (pZ (fun v w2 => w2 = w ∧ (v = 1 ↔ a &&& (a - 1) ≠ 0))) := by
  refine Ctr.of ykX5_hasTwo rfl (Nat.le_of_ble_eq_true rfl) okZ (fun hin hW => ?_)
  show Ex _ _ 0 0 n w 0 [some (xi a)] []
  refine ex_iload_n (pc := 0) dX5_hasTwo_0 rfl ?_
  refine ex_iload_n (pc := 1) dX5_hasTwo_1 rfl ?_
  refine ex_iconst (pc := 2) dX5_hasTwo_2 (by decide) ?_
  refine ex_isub (pc := 3) dX5_hasTwo_3 (by unfold inI; omega) ?_
  refine ex_iand (pc := 4) dX5_hasTwo_4 ?_
  refine ex_eq (xtwo_n ha) ?_
  refine ex_if_eq (pc := 5) dX5_hasTwo_5 (tgt := 12) (by decide) (fun c5 => ?_) (fun c5 => ?_)
  · refine ex_iconst (pc := 12) dX5_hasTwo_12 (by decide) ?_
    exact ex_zret (pc := 13) dX5_hasTwo_13 ⟨by omega, rfl, by omega⟩ rfl (Nat.le_refl _)
  · refine ex_iconst (pc := 8) dX5_hasTwo_8 (by decide) ?_
    refine ex_goto (pc := 9) dX5_hasTwo_9 (tgt := 13) (by decide) ?_
    exact ex_zret (pc := 13) dX5_hasTwo_13 ⟨by omega, rfl, by omega⟩ rfl (Nat.le_refl _)

abbrev mX5_shiftOf : xC := mkC yX5_shiftOf cX5_shiftOf 2 (some .int) 1 100 0 0
set_option maxHeartbeats 4000000 in
set_option maxRecDepth 100000 in
theorem tX5_shiftOf {n : Nat} {w : xW} {a b : Int} (h : -1000 ≤ a ∧ a ≤ 1000 ∧ -1000 ≤ b ∧ b ≤ 1000) : Ctr mX5_shiftOf [xi a, xi b] n w (pI (fun v w2 => w2 = w ∧ v = (a + 19) * 23 + b + 11)) := by
  refine Ctr.of ykX5_shiftOf rfl (Nat.le_of_ble_eq_true rfl) okI (fun hin hW => ?_)
  show Ex _ _ 0 0 n w 0 [some (xi a), some (xi b)] []
  refine ex_iload_n (pc := 0) dX5_shiftOf_0 rfl ?_
  refine ex_bipush (pc := 1) dX5_shiftOf_1 (by decide) ?_
  refine ex_iadd (pc := 3) dX5_shiftOf_3 (by unfold inI; omega) ?_
  refine ex_bipush (pc := 4) dX5_shiftOf_4 (by decide) ?_
  refine ex_imul (pc := 6) dX5_shiftOf_6 (by unfold inI; omega) ?_
  refine ex_iload_n (pc := 7) dX5_shiftOf_7 rfl ?_
  refine ex_iadd (pc := 8) dX5_shiftOf_8 (by unfold inI; omega) ?_
  refine ex_bipush (pc := 9) dX5_shiftOf_9 (by decide) ?_
  refine ex_iadd (pc := 11) dX5_shiftOf_11 (by unfold inI; omega) ?_
  exact ex_iret (pc := 12) dX5_shiftOf_12 ⟨rfl, rfl⟩ rfl (Nat.le_refl _)

abbrev mX5_timePart : xC := mkC yX5_timePart cX5_timePart 1 (some .int) 1 100 0 0
set_option maxHeartbeats 4000000 in
set_option maxRecDepth 100000 in
theorem tX5_timePart {n : Nat} {w : xW} {a : Int} (h : 0 ≤ a ∧ a ≤ 100000) : Ctr mX5_timePart [xi a] n w (pI (fun v w2 => w2 = w ∧ v = a / 23 - 19)) := by
  refine Ctr.of ykX5_timePart rfl (Nat.le_of_ble_eq_true rfl) okI (fun hin hW => ?_)
  show Ex _ _ 0 0 n w 0 [some (xi a)] []
  refine ex_iload_n (pc := 0) dX5_timePart_0 rfl ?_
  refine ex_bipush (pc := 1) dX5_timePart_1 (by decide) ?_
  refine ex_idiv (pc := 3) dX5_timePart_3 (by omega) (by omega) ?_
  refine ex_bipush (pc := 4) dX5_timePart_4 (by decide) ?_
  refine ex_isub (pc := 6) dX5_timePart_6 (by unfold inI; omega) ?_
  exact ex_iret (pc := 7) dX5_timePart_7 ⟨rfl, rfl⟩ rfl (Nat.le_refl _)

abbrev mX5_pitchPart : xC := mkC yX5_pitchPart cX5_pitchPart 1 (some .int) 1 100 0 0
set_option maxHeartbeats 4000000 in
set_option maxRecDepth 100000 in
theorem tX5_pitchPart {n : Nat} {w : xW} {a : Int} (h : 0 ≤ a ∧ a ≤ 100000) : Ctr mX5_pitchPart [xi a] n w (pI (fun v w2 => w2 = w ∧ v = a % 23 - 11)) := by
  refine Ctr.of ykX5_pitchPart rfl (Nat.le_of_ble_eq_true rfl) okI (fun hin hW => ?_)
  show Ex _ _ 0 0 n w 0 [some (xi a)] []
  refine ex_iload_n (pc := 0) dX5_pitchPart_0 rfl ?_
  refine ex_bipush (pc := 1) dX5_pitchPart_1 (by decide) ?_
  refine ex_irem (pc := 3) dX5_pitchPart_3 (by omega) (by omega) ?_
  refine ex_bipush (pc := 4) dX5_pitchPart_4 (by decide) ?_
  refine ex_isub (pc := 6) dX5_pitchPart_6 (by unfold inI; omega) ?_
  exact ex_iret (pc := 7) dX5_pitchPart_7 ⟨rfl, rfl⟩ rfl (Nat.le_refl _)

abbrev mX5_isHeld : xC := mkC yX5_isHeld cX5_isHeld 2 (some .boolean) 1 100 0 0
set_option maxHeartbeats 4000000 in
set_option maxRecDepth 100000 in
theorem tX5_isHeld {n : Nat} {w : xW} {a b : Int} : Ctr mX5_isHeld [xi a, xi b] n w (pZ (fun v w2 => w2 = w ∧ (v = 1 ↔ -19 ≤ a ∧ a ≤ 19 ∧ -11 ≤ b ∧ b ≤ 11))) := by
  refine Ctr.of ykX5_isHeld rfl (Nat.le_of_ble_eq_true rfl) okZ (fun hin hW => ?_)
  show Ex _ _ 0 0 n w 0 [some (xi a), some (xi b)] []
  refine ex_iload_n (pc := 0) dX5_isHeld_0 rfl ?_
  refine ex_bipush (pc := 1) dX5_isHeld_1 (by decide) ?_
  refine ex_icmp_lt (pc := 3) dX5_isHeld_3 (tgt := 28) (by decide) (fun c3 => ?_) (fun c3 => ?_)
  · refine ex_iconst (pc := 28) dX5_isHeld_28 (by decide) ?_
    exact ex_zret (pc := 29) dX5_isHeld_29 ⟨by omega, rfl, by omega⟩ rfl (Nat.le_refl _)
  · refine ex_iload_n (pc := 6) dX5_isHeld_6 rfl ?_
    refine ex_bipush (pc := 7) dX5_isHeld_7 (by decide) ?_
    refine ex_icmp_gt (pc := 9) dX5_isHeld_9 (tgt := 28) (by decide) (fun c9 => ?_) (fun c9 => ?_)
    · refine ex_iconst (pc := 28) dX5_isHeld_28 (by decide) ?_
      exact ex_zret (pc := 29) dX5_isHeld_29 ⟨by omega, rfl, by omega⟩ rfl (Nat.le_refl _)
    · refine ex_iload_n (pc := 12) dX5_isHeld_12 rfl ?_
      refine ex_bipush (pc := 13) dX5_isHeld_13 (by decide) ?_
      refine ex_icmp_lt (pc := 15) dX5_isHeld_15 (tgt := 28) (by decide) (fun c15 => ?_) (fun c15 => ?_)
      · refine ex_iconst (pc := 28) dX5_isHeld_28 (by decide) ?_
        exact ex_zret (pc := 29) dX5_isHeld_29 ⟨by omega, rfl, by omega⟩ rfl (Nat.le_refl _)
      · refine ex_iload_n (pc := 18) dX5_isHeld_18 rfl ?_
        refine ex_bipush (pc := 19) dX5_isHeld_19 (by decide) ?_
        refine ex_icmp_gt (pc := 21) dX5_isHeld_21 (tgt := 28) (by decide) (fun c21 => ?_) (fun c21 => ?_)
        · refine ex_iconst (pc := 28) dX5_isHeld_28 (by decide) ?_
          exact ex_zret (pc := 29) dX5_isHeld_29 ⟨by omega, rfl, by omega⟩ rfl (Nat.le_refl _)
        · refine ex_iconst (pc := 24) dX5_isHeld_24 (by decide) ?_
          refine ex_goto (pc := 25) dX5_isHeld_25 (tgt := 29) (by decide) ?_
          exact ex_zret (pc := 29) dX5_isHeld_29 ⟨by omega, rfl, by omega⟩ rfl (Nat.le_refl _)

abbrev mX7_in : xC := mkC yX7_in cX7_in 3 (some .boolean) 1 100 0 0
set_option maxHeartbeats 4000000 in
set_option maxRecDepth 100000 in
theorem tX7_in {n : Nat} {w : xW} {a b c : Int} : Ctr mX7_in [xi a, xi b, xi c] n w (pZ (fun v w2 => w2 = w ∧ (v = 1 ↔ b ≤ a ∧ a ≤ c))) := by
  refine Ctr.of ykX7_in rfl (Nat.le_of_ble_eq_true rfl) okZ (fun hin hW => ?_)
  show Ex _ _ 0 0 n w 0 [some (xi a), some (xi b), some (xi c)] []
  refine ex_iload_n (pc := 0) dX7_in_0 rfl ?_
  refine ex_iload_n (pc := 1) dX7_in_1 rfl ?_
  refine ex_icmp_lt (pc := 2) dX7_in_2 (tgt := 14) (by decide) (fun c2 => ?_) (fun c2 => ?_)
  · refine ex_iconst (pc := 14) dX7_in_14 (by decide) ?_
    exact ex_zret (pc := 15) dX7_in_15 ⟨by omega, rfl, by omega⟩ rfl (Nat.le_refl _)
  · refine ex_iload_n (pc := 5) dX7_in_5 rfl ?_
    refine ex_iload_n (pc := 6) dX7_in_6 rfl ?_
    refine ex_icmp_gt (pc := 7) dX7_in_7 (tgt := 14) (by decide) (fun c7 => ?_) (fun c7 => ?_)
    · refine ex_iconst (pc := 14) dX7_in_14 (by decide) ?_
      exact ex_zret (pc := 15) dX7_in_15 ⟨by omega, rfl, by omega⟩ rfl (Nat.le_refl _)
    · refine ex_iconst (pc := 10) dX7_in_10 (by decide) ?_
      refine ex_goto (pc := 11) dX7_in_11 (tgt := 15) (by decide) ?_
      exact ex_zret (pc := 15) dX7_in_15 ⟨by omega, rfl, by omega⟩ rfl (Nat.le_refl _)

abbrev mX7_isThere : xC := mkC yX7_isThere cX7_isThere 2 (some .boolean) 2 200 0 0
set_option maxHeartbeats 4000000 in
set_option maxRecDepth 100000 in
theorem tX7_isThere {n : Nat} {w : xW} {a b : Int} : Ctr mX7_isThere [xi a, xi b] n w (pZ (fun v w2 => w2 = w ∧ (v = 1 ↔ 0 ≤ a ∧ a < 20 ∧ 0 ≤ b ∧ b < 12))) := by
  refine Ctr.of ykX7_isThere rfl (Nat.le_of_ble_eq_true rfl) okZ (fun hin hW => ?_)
  show Ex _ _ 0 0 n w 0 [some (xi a), some (xi b)] []
  refine ex_iload_n (pc := 0) dX7_isThere_0 rfl ?_
  refine ex_iconst (pc := 1) dX7_isThere_1 (by decide) ?_
  refine ex_bipush (pc := 2) dX7_isThere_2 (by decide) ?_
  refine ex_callSZ (as := [_, _, _]) (pc := 4) dX7_isThere_4 (tX7_in) lk_X7_68 ykX7_in zkX7_in rfl rfl (Nat.le_of_ble_eq_true rfl) ⟨by decide, by decide⟩ ⟨Nat.le_refl _, Nat.le_refl _⟩ (fun i4 w1 r4 p4 => ?_)
  obtain ⟨e4, p4⟩ := p4
  subst e4
  refine ex_if_eq (pc := 7) dX7_isThere_7 (tgt := 24) (by decide) (fun c7 => ?_) (fun c7 => ?_)
  · refine ex_iconst (pc := 24) dX7_isThere_24 (by decide) ?_
    exact ex_zret (pc := 25) dX7_isThere_25 ⟨by omega, rfl, by omega⟩ rfl (Nat.le_refl _)
  · refine ex_iload_n (pc := 10) dX7_isThere_10 rfl ?_
    refine ex_iconst (pc := 11) dX7_isThere_11 (by decide) ?_
    refine ex_bipush (pc := 12) dX7_isThere_12 (by decide) ?_
    refine ex_callSZ (as := [_, _, _]) (pc := 14) dX7_isThere_14 (tX7_in) lk_X7_68 ykX7_in zkX7_in rfl rfl (Nat.le_of_ble_eq_true rfl) ⟨by decide, by decide⟩ ⟨Nat.le_refl _, Nat.le_refl _⟩ (fun i14 w1 r14 p14 => ?_)
    obtain ⟨e14, p14⟩ := p14
    subst e14
    refine ex_if_eq (pc := 17) dX7_isThere_17 (tgt := 24) (by decide) (fun c17 => ?_) (fun c17 => ?_)
    · refine ex_iconst (pc := 24) dX7_isThere_24 (by decide) ?_
      exact ex_zret (pc := 25) dX7_isThere_25 ⟨by omega, rfl, by omega⟩ rfl (Nat.le_refl _)
    · refine ex_iconst (pc := 20) dX7_isThere_20 (by decide) ?_
      refine ex_goto (pc := 21) dX7_isThere_21 (tgt := 25) (by decide) ?_
      exact ex_zret (pc := 25) dX7_isThere_25 ⟨by omega, rfl, by omega⟩ rfl (Nat.le_refl _)

abbrev mX7_allOf : xC := mkC yX7_allOf cX7_allOf 1 (some .int) 1 100 0 0
set_option maxHeartbeats 4000000 in
set_option maxRecDepth 100000 in
theorem tX7_allOf {n : Nat} {w : xW} {a sz N : Nat} {f : Nat → Int} (h_a : w a = xA N f) (hN : 1 ≤ N) (hsz : f 0 = sz) (hle : sz ≤ 14) : Ctr mX7_allOf [xr a] n w (pI (fun v w2 => w2 = w ∧ v = ((2 ^ sz - 1 : Nat) : Int))) := by
  refine Ctr.of ykX7_allOf rfl (Nat.le_of_ble_eq_true rfl) okI (fun hin hW => ?_)
  show Ex _ _ 0 0 n w 0 [some (xr a)] []
  refine ex_iconst (pc := 0) dX7_allOf_0 (by decide) ?_
  refine ex_aload_n (pc := 1) dX7_allOf_1 rfl ?_
  refine ex_iconst (pc := 2) dX7_allOf_2 (by decide) ?_
  refine ex_iaload (pc := 3) dX7_allOf_3 h_a (by omega) (by omega) ?_
  refine ex_ishl (pc := 4) dX7_allOf_4 ?_
  have e0 : (0 : Int).toNat = 0 := rfl
  rw [e0, hsz]
  refine ex_eq (xshl_n sz (by omega)) ?_
  have hp := two14 hle
  have hp1 : 1 ≤ 2 ^ sz := Nat.one_le_two_pow
  generalize hz : 2 ^ sz = z at hp hp1 ⊢
  refine ex_iconst (pc := 5) dX7_allOf_5 (by decide) ?_
  refine ex_isub (pc := 6) dX7_allOf_6 (by unfold inI; omega) ?_
  exact ex_iret (pc := 7) dX7_allOf_7 ⟨rfl, by omega⟩ rfl (Nat.le_refl _)

abbrev mX7_bits : xC := mkC yX7_bits cX7_bits 3 (some .int) 1 100 0 0
theorem pc_le (a : Nat) : pc14 a ≤ 14 := by unfold pc14; omega
set_option maxHeartbeats 4000000 in
set_option maxRecDepth 100000 in
theorem tX7_bits {n : Nat} {w : xW} {a : Nat} (ha : a < 16384) : Ctr mX7_bits [xi a] n w (pI (fun v w2 => w2 = w ∧ v = pc14 a)) := by
  refine Ctr.of ykX7_bits rfl (Nat.le_of_ble_eq_true rfl) okI (fun hin hW => ?_)
  show Ex _ _ 0 0 n w 0 [some (xi a), none, none] []
  have loop : ∀ (d c b : Nat), b < 16384 → c + pc14 b = pc14 a → pc14 b + 1 ≤ d → Ex mX7_bits (pI (fun v w2 => w2 = w ∧ v = pc14 a)) 0 0 n w 4 [some (xi a), some (xi c), some (xi b)] [] := by
    intro d
    induction d with
    | zero => intro c b h1 h2 h3; omega
    | succ d ih =>
      intro c b hb hc hd
      refine ex_iload_n (pc := 4) dX7_bits_4 rfl ?_
      refine ex_if_eq (pc := 5) dX7_bits_5 (tgt := 20) (by decide) (fun c5 => ?_) (fun c5 => ?_)
      · have hb0 : b = 0 := by omega
        subst hb0
        have hp0 : pc14 0 = 0 := rfl
        refine ex_iload_n (pc := 20) dX7_bits_20 rfl ?_
        exact ex_iret (pc := 21) dX7_bits_21 ⟨rfl, by omega⟩ rfl (Nat.le_refl _)
      · have hb0 : b ≠ 0 := by omega
        have hlow := ((pc_low hb).1.resolve_left hb0)
        have hc1 : c + 1 + pc14 (b &&& (b - 1)) = pc14 a := by omega
        have hpl : pc14 a ≤ 14 := pc_le a
        refine ex_iinc (L2 := [_, _, _]) (pc := 8) dX7_bits_8 rfl rfl (Nat.le_of_ble_eq_true rfl) (by unfold inI; omega) rfl ?_
        refine ex_iload_n (pc := 11) dX7_bits_11 rfl ?_
        refine ex_iload_n (pc := 12) dX7_bits_12 rfl ?_
        refine ex_iconst (pc := 13) dX7_bits_13 (by decide) ?_
        refine ex_isub (pc := 14) dX7_bits_14 (by unfold inI; omega) ?_
        refine ex_iand (pc := 15) dX7_bits_15 ?_
        refine ex_eq (xtwo_n (by omega)) ?_
        refine ex_istore_n (L2 := [_, _, _]) (pc := 16) dX7_bits_16 rfl (Nat.le_of_ble_eq_true rfl) rfl ?_
        refine ex_goto (pc := 17) dX7_bits_17 (tgt := 4) (by decide) ?_
        exact ih (c + 1) (b &&& (b - 1)) (Nat.lt_of_le_of_lt Nat.and_le_left hb) hc1 (by omega)
  refine ex_iconst (pc := 0) dX7_bits_0 (by decide) ?_
  refine ex_istore_n (L2 := [_, _, _]) (pc := 1) dX7_bits_1 rfl (Nat.le_of_ble_eq_true rfl) rfl ?_
  refine ex_iload_n (pc := 2) dX7_bits_2 rfl ?_
  refine ex_istore_n (L2 := [_, _, _]) (pc := 3) dX7_bits_3 rfl (Nat.le_of_ble_eq_true rfl) rfl ?_
  exact loop (pc14 a + 1) 0 a ha (by omega) (by omega)

abbrev mJ7_fill_53178 : xC := mkC yJ7_fill_53178 cJ7_fill_53178 4 none 1 100 0 0
set_option maxHeartbeats 4000000 in
set_option maxRecDepth 100000 in
theorem tJ7_fill_53178 {n : Nat} {W : xW} {a N : Nat} {f : Nat → Int} {c : Int} (h_a : W a = xA N f) (hN : N ≤ 100000) : Ctr mJ7_fill_53178 [xr a, xi c] n W (pV (fun w2 => w2 = va_up W a (xA N (fun i => if i < N then c else f i)))) := by
  refine Ctr.of ykJ7_fill_53178 rfl (Nat.le_of_ble_eq_true rfl) okV (fun hin hW => ?_)
  show Ex _ _ 0 0 n W 0 [some (xr a), some (xi c), none, none] []
  have loop : ∀ (d k : Nat), k ≤ N → N + 1 ≤ k + d → ∀ (w : xW) (g : Nat → Int), (∀ i, g i = if i < k then c else f i) → w a = xA N g → (∀ q, q ≠ a → w q = W q) → Ex mJ7_fill_53178 (pV (fun w2 => w2 = va_up W a (xA N (fun i => if i < N then c else f i)))) 0 0 n w 5 [some (xr a), some (xi c), some (xi k), some (xi N)] [] := by
    intro d
    induction d with
    | zero => intro k h1 h2; omega
    | succ d ih =>
      intro k h1 h2 w g hg h_a hfr
      refine ex_iload_n (pc := 5) dJ7_fill_53178_5 rfl ?_
      refine ex_iload_n (pc := 6) dJ7_fill_53178_6 rfl ?_
      refine ex_icmp_ge (pc := 7) dJ7_fill_53178_7 (tgt := 20) (by decide) (fun c7 => ?_) (fun c7 => ?_)
      · exact ex_vret (pc := 20) dJ7_fill_53178_20 (by
  have hks : k = N := by omega
  subst hks
  funext q
  by_cases q1 : q = a
  · subst q1
    rw [up_s, h_a]
    congr 2
    funext i
    exact hg i
  · rw [up_n q1, hfr q q1]) rfl (Nat.le_refl _)
      · refine ex_aload_n (pc := 10) dJ7_fill_53178_10 rfl ?_
        refine ex_iload_n (pc := 11) dJ7_fill_53178_11 rfl ?_
        refine ex_iload_n (pc := 12) dJ7_fill_53178_12 rfl ?_
        refine ex_iastore (pc := 13) dJ7_fill_53178_13 h_a (by omega) (by omega) ?_
        refine ex_up (fun w1 e_w1 => ?_)
        have h1_a := (congrFun e_w1 a).trans up_s
        refine ex_iinc (L2 := [_, _, _, _]) (pc := 14) dJ7_fill_53178_14 rfl rfl (Nat.le_of_ble_eq_true rfl) (by unfold inI; omega) rfl ?_
        refine ex_goto (pc := 17) dJ7_fill_53178_17 (tgt := 5) (by decide) ?_
        exact ih (k + 1) (by omega) (by omega) w1 (fun i => if i < k + 1 then c else f i) (fun i => rfl) (h1_a.trans (by
          congr 2
          funext i
          have hk1 : ((k : Int)).toNat = k := by omega
          simp only [va_up, hk1, hg]
          by_cases h9 : i = k
          · subst h9; rw [if_pos rfl, if_pos (by omega)]
          · rw [if_neg h9]
            by_cases h8 : i < k
            · rw [if_pos h8, if_pos (by omega)]
            · rw [if_neg h8, if_neg (by omega)])) (fun q hq => (((congrFun e_w1 q).trans (up_n hq)).trans (hfr q hq)))
  refine ex_iconst (pc := 0) dJ7_fill_53178_0 (by decide) ?_
  refine ex_istore_n (L2 := [_, _, _, _]) (pc := 1) dJ7_fill_53178_1 rfl (Nat.le_of_ble_eq_true rfl) rfl ?_
  refine ex_aload_n (pc := 2) dJ7_fill_53178_2 rfl ?_
  refine ex_alen (pc := 3) dJ7_fill_53178_3 h_a (by omega) ?_
  refine ex_istore_n (L2 := [_, _, _, _]) (pc := 4) dJ7_fill_53178_4 rfl (Nat.le_of_ble_eq_true rfl) rfl ?_
  exact loop (N + 1) 0 (by omega) (by omega) W f (fun i => by split <;> first | rfl | omega) h_a (fun _ _ => rfl)

theorem neg_bit (x : Int32) : x.toInt < 0 ↔ bt x 31 = true := by
  have h := BitVec.msb_eq_toInt (x := x.toBitVec)
  have h2 : x.toBitVec.msb = bt x 31 := BitVec.msb_eq_getLsbD_last _
  rw [h2] at h
  have h3 : x.toInt = x.toBitVec.toInt := rfl
  rw [h3]
  constructor
  · intro q; rw [h]; exact decide_eq_true q
  · intro q; rw [h] at q; exact of_decide_eq_true q
theorem xxor_12 {a : Int} (ha : inI a) : 0 ≤ xxor a 12 ↔ 0 ≤ a := by
  have h1 := neg_bit (Int32.ofInt a ^^^ Int32.ofInt 12)
  have h2 := neg_bit (Int32.ofInt a)
  rw [i32_to ha] at h2
  have h3 : bt (Int32.ofInt 12) 31 = false := by decide
  rw [b_xor, h3, Bool.xor_false] at h1
  have h4 : (Int32.ofInt a ^^^ Int32.ofInt 12).toInt = xxor a 12 := rfl
  rw [h4] at h1
  have h5 := h1.trans h2.symm
  omega
theorem tmod_12 (a : Int) : (0 ≤ a → Int.tmod a 12 = a % 12) ∧ (a < 0 → (Int.tmod a 12 = 0 → a % 12 = 0) ∧ (Int.tmod a 12 ≠ 0 → a % 12 = Int.tmod a 12 + 12)) := by
  refine ⟨fun h => Int.tmod_eq_emod_of_nonneg h, fun h => ?_⟩
  have h1 : Int.tmod a 12 = -((-a) % 12) := by
    have h2 := Int.neg_tmod (-a) 12
    rw [Int.neg_neg] at h2
    rw [h2, Int.tmod_eq_emod_of_nonneg (show 0 ≤ -a by omega)]
  rw [h1]
  omega
abbrev mJ9_floorMod_7cf53 : xC := mkC yJ9_floorMod_7cf53 cJ9_floorMod_7cf53 3 (some .int) 1 100 0 0
set_option maxHeartbeats 4000000 in
set_option maxRecDepth 100000 in
theorem tJ9_floorMod_7cf53 {n : Nat} {w : xW} {a : Int} : Ctr mJ9_floorMod_7cf53 [xi a, xi 12] n w (pI (fun v w2 => w2 = w ∧ v = a % 12)) := by
  refine Ctr.of ykJ9_floorMod_7cf53 rfl (Nat.le_of_ble_eq_true rfl) okI (fun hin hW => ?_)
  have hia : inI a := hin _ List.mem_cons_self
  have ht := tmod_12 a
  have hb1 : Int.tmod a 12 < 12 := Int.tmod_lt_of_pos a (by omega)
  have hb2 : -12 < Int.tmod a 12 := by
    rcases Int.le_total 0 a with q | q
    · have := Int.tmod_nonneg 12 q
      omega
    · have h8 := Int.tmod_lt_of_pos (-a) (show (0 : Int) < 12 by omega)
      rw [Int.neg_tmod] at h8
      omega
  show Ex _ _ 0 0 n w 0 [some (xi a), some (xi 12), none] []
  refine ex_iload_n (pc := 0) dJ9_floorMod_7cf53_0 rfl ?_
  refine ex_iload_n (pc := 1) dJ9_floorMod_7cf53_1 rfl ?_
  refine ex_iremT (pc := 2) dJ9_floorMod_7cf53_2 (by omega) ?_
  refine ex_istore_n (L2 := [_, _, _]) (pc := 3) dJ9_floorMod_7cf53_3 rfl (Nat.le_of_ble_eq_true rfl) rfl ?_
  refine ex_iload_n (pc := 4) dJ9_floorMod_7cf53_4 rfl ?_
  refine ex_iload_n (pc := 5) dJ9_floorMod_7cf53_5 rfl ?_
  refine ex_ixor (pc := 6) dJ9_floorMod_7cf53_6 ?_
  have hx := xxor_12 hia
  refine ex_if_ge (pc := 7) dJ9_floorMod_7cf53_7 (tgt := 18) (by decide) (fun c7 => ?_) (fun c7 => ?_)
  · refine ex_iload_n (pc := 18) dJ9_floorMod_7cf53_18 rfl ?_
    exact ex_iret (pc := 19) dJ9_floorMod_7cf53_19 ⟨rfl, (ht.1 (by omega))⟩ rfl (Nat.le_refl _)
  · refine ex_iload_n (pc := 10) dJ9_floorMod_7cf53_10 rfl ?_
    refine ex_if_eq (pc := 11) dJ9_floorMod_7cf53_11 (tgt := 18) (by decide) (fun c11 => ?_) (fun c11 => ?_)
    · refine ex_iload_n (pc := 18) dJ9_floorMod_7cf53_18 rfl ?_
      exact ex_iret (pc := 19) dJ9_floorMod_7cf53_19 ⟨rfl, by have := (ht.2 (by omega)).1 c11; omega⟩ rfl (Nat.le_refl _)
    · refine ex_iload_n (pc := 14) dJ9_floorMod_7cf53_14 rfl ?_
      refine ex_iload_n (pc := 15) dJ9_floorMod_7cf53_15 rfl ?_
      refine ex_iadd (pc := 16) dJ9_floorMod_7cf53_16 (by unfold inI; omega) ?_
      exact ex_iret (pc := 17) dJ9_floorMod_7cf53_17 ⟨rfl, by have := (ht.2 (by omega)).2 c11; omega⟩ rfl (Nat.le_refl _)

abbrev mJ6_bitCount_0f7a4 : xC := mkC yJ6_bitCount_0f7a4 cJ6_bitCount_0f7a4 1 (some .int) 1 100 0 0
set_option maxHeartbeats 4000000 in
set_option maxRecDepth 100000 in
theorem tJ6_bitCount_0f7a4 {n : Nat} {w : xW} {a : Nat} (ha : a < 16384) : Ctr mJ6_bitCount_0f7a4 [xi a] n w (pI (fun v w2 => w2 = w ∧ v = pc14 a)) := by
  refine Ctr.of ykJ6_bitCount_0f7a4 rfl (Nat.le_of_ble_eq_true rfl) okI (fun hin hW => ?_)
  have hs1 := (bc_ok ha).2
  show Ex _ _ 0 0 n w 0 [some (xi a)] []
  refine ex_iload_n (pc := 0) dJ6_bitCount_0f7a4_0 rfl ?_
  refine ex_iload_n (pc := 1) dJ6_bitCount_0f7a4_1 rfl ?_
  refine ex_iconst (pc := 2) dJ6_bitCount_0f7a4_2 (by decide) ?_
  refine ex_iushr (pc := 3) dJ6_bitCount_0f7a4_3 ?_
  refine ex_eq (xushr_n (n := 1) (by omega) (by decide)) ?_
  refine ex_ldcw (pc := 4) dJ6_bitCount_0f7a4_4 (v := 1431655765) (by unfold inI; omega) cst_J6_265 ?_
  refine ex_iand (pc := 7) dJ6_bitCount_0f7a4_7 ?_
  refine ex_eq (xand_n (b := 1431655765) (by omega)) ?_
  refine ex_isub (pc := 8) dJ6_bitCount_0f7a4_8 (by unfold inI; omega) ?_
  refine ex_eq (show _ = ((a - (a >>> 1 &&& 1431655765) : Nat) : Int) by omega) ?_
  generalize ha1 : a - (a >>> 1 &&& 1431655765) = a1
  have hb1 : a1 < 16384 := by omega
  have hs2 : a1 >>> 2 ≤ a1 := by rw [Nat.shiftRight_eq_div_pow]; exact Nat.div_le_self _ _
  refine ex_istore_n (L2 := [_]) (pc := 9) dJ6_bitCount_0f7a4_9 rfl (Nat.le_of_ble_eq_true rfl) rfl ?_
  refine ex_iload_n (pc := 10) dJ6_bitCount_0f7a4_10 rfl ?_
  refine ex_ldcw (pc := 11) dJ6_bitCount_0f7a4_11 (v := 858993459) (by unfold inI; omega) cst_J6_266 ?_
  refine ex_iand (pc := 14) dJ6_bitCount_0f7a4_14 ?_
  refine ex_eq (xand_n (b := 858993459) (by omega)) ?_
  have hm1 : a1 &&& 858993459 ≤ a1 := Nat.and_le_left
  refine ex_iload_n (pc := 15) dJ6_bitCount_0f7a4_15 rfl ?_
  refine ex_iconst (pc := 16) dJ6_bitCount_0f7a4_16 (by decide) ?_
  refine ex_iushr (pc := 17) dJ6_bitCount_0f7a4_17 ?_
  refine ex_eq (xushr_n (n := 2) (by omega) (by decide)) ?_
  refine ex_ldcw (pc := 18) dJ6_bitCount_0f7a4_18 (v := 858993459) (by unfold inI; omega) cst_J6_266 ?_
  refine ex_iand (pc := 21) dJ6_bitCount_0f7a4_21 ?_
  refine ex_eq (xand_n (b := 858993459) (by omega)) ?_
  have hm2 : a1 >>> 2 &&& 858993459 ≤ a1 >>> 2 := Nat.and_le_left
  refine ex_iadd (pc := 22) dJ6_bitCount_0f7a4_22 (by unfold inI; omega) ?_
  refine ex_eq (show _ = (((a1 &&& 858993459) + (a1 >>> 2 &&& 858993459) : Nat) : Int) by omega) ?_
  generalize ha2 : (a1 &&& 858993459) + (a1 >>> 2 &&& 858993459) = a2
  have hb2 : a2 < 32768 := by omega
  have hs4 : a2 >>> 4 ≤ a2 := by rw [Nat.shiftRight_eq_div_pow]; exact Nat.div_le_self _ _
  refine ex_istore_n (L2 := [_]) (pc := 23) dJ6_bitCount_0f7a4_23 rfl (Nat.le_of_ble_eq_true rfl) rfl ?_
  refine ex_iload_n (pc := 24) dJ6_bitCount_0f7a4_24 rfl ?_
  refine ex_iload_n (pc := 25) dJ6_bitCount_0f7a4_25 rfl ?_
  refine ex_iconst (pc := 26) dJ6_bitCount_0f7a4_26 (by decide) ?_
  refine ex_iushr (pc := 27) dJ6_bitCount_0f7a4_27 ?_
  refine ex_eq (xushr_n (n := 4) (by omega) (by decide)) ?_
  refine ex_iadd (pc := 28) dJ6_bitCount_0f7a4_28 (by unfold inI; omega) ?_
  refine ex_eq (show _ = ((a2 + (a2 >>> 4) : Nat) : Int) by omega) ?_
  refine ex_ldcw (pc := 29) dJ6_bitCount_0f7a4_29 (v := 252645135) (by unfold inI; omega) cst_J6_267 ?_
  refine ex_iand (pc := 32) dJ6_bitCount_0f7a4_32 ?_
  refine ex_eq (xand_n (b := 252645135) (by omega)) ?_
  have hm3 : (a2 + (a2 >>> 4)) &&& 252645135 ≤ a2 + (a2 >>> 4) := Nat.and_le_left
  generalize ha3 : (a2 + (a2 >>> 4)) &&& 252645135 = a3 at hm3
  have hs8 : a3 >>> 8 ≤ a3 := by rw [Nat.shiftRight_eq_div_pow]; exact Nat.div_le_self _ _
  refine ex_istore_n (L2 := [_]) (pc := 33) dJ6_bitCount_0f7a4_33 rfl (Nat.le_of_ble_eq_true rfl) rfl ?_
  refine ex_iload_n (pc := 34) dJ6_bitCount_0f7a4_34 rfl ?_
  refine ex_iload_n (pc := 35) dJ6_bitCount_0f7a4_35 rfl ?_
  refine ex_bipush (pc := 36) dJ6_bitCount_0f7a4_36 (by decide) ?_
  refine ex_iushr (pc := 38) dJ6_bitCount_0f7a4_38 ?_
  refine ex_eq (xushr_n (n := 8) (by omega) (by decide)) ?_
  refine ex_iadd (pc := 39) dJ6_bitCount_0f7a4_39 (by unfold inI; omega) ?_
  refine ex_eq (show _ = ((a3 + (a3 >>> 8) : Nat) : Int) by omega) ?_
  generalize ha4 : a3 + (a3 >>> 8) = a4
  have hs16 : a4 >>> 16 ≤ a4 := by rw [Nat.shiftRight_eq_div_pow]; exact Nat.div_le_self _ _
  refine ex_istore_n (L2 := [_]) (pc := 40) dJ6_bitCount_0f7a4_40 rfl (Nat.le_of_ble_eq_true rfl) rfl ?_
  refine ex_iload_n (pc := 41) dJ6_bitCount_0f7a4_41 rfl ?_
  refine ex_iload_n (pc := 42) dJ6_bitCount_0f7a4_42 rfl ?_
  refine ex_bipush (pc := 43) dJ6_bitCount_0f7a4_43 (by decide) ?_
  refine ex_iushr (pc := 45) dJ6_bitCount_0f7a4_45 ?_
  refine ex_eq (xushr_n (n := 16) (by omega) (by decide)) ?_
  refine ex_iadd (pc := 46) dJ6_bitCount_0f7a4_46 (by unfold inI; omega) ?_
  refine ex_eq (show _ = ((a4 + (a4 >>> 16) : Nat) : Int) by omega) ?_
  generalize ha5 : a4 + (a4 >>> 16) = a5
  refine ex_istore_n (L2 := [_]) (pc := 47) dJ6_bitCount_0f7a4_47 rfl (Nat.le_of_ble_eq_true rfl) rfl ?_
  refine ex_iload_n (pc := 48) dJ6_bitCount_0f7a4_48 rfl ?_
  refine ex_bipush (pc := 49) dJ6_bitCount_0f7a4_49 (by decide) ?_
  refine ex_iand (pc := 51) dJ6_bitCount_0f7a4_51 ?_
  refine ex_eq (xand_n (b := 63) (by omega)) ?_
  exact ex_iret (pc := 52) dJ6_bitCount_0f7a4_52 ⟨rfl, by rw [← (bc_ok ha).1]; unfold bcN; simp only [ha1, ha2, ha3, ha4, ha5]⟩ rfl (Nat.le_refl _)
end
section
/-! ===== contracts weakened; a piece as a list of codes and a mode ===== -/
theorem Ctr.mono {X : xC} {as : List xV} {n : Nat} {w : xW} {P P2 : xP} (h : Ctr X as n w P) (hm : ∀ v w2, P v w2 → P2 v w2) : Ctr X as n w P2 := by
  intro l B D p e ha hc hk s m args below hf happ hP hK
  obtain ⟨k, o, h1, h2, h3, hQ⟩ := h l B D p e ha hc hk s m args below hf happ hP hK
  refine ⟨k, o, h1, h2, h3, ?_, hQ.2⟩
  obtain ⟨v, w2, q1, q2, q3⟩ := hQ.1
  exact ⟨v, w2, q1, hm v w2 q2, q3⟩
theorem Ctr.monoI {X : xC} {as : List xV} {n : Nat} {w : xW} {P P2 : Int → xW → Prop} (h : Ctr X as n w (pI P)) (hm : ∀ v w2, P v w2 → P2 v w2) : Ctr X as n w (pI P2) := h.mono (fun v w2 ⟨i, e, q⟩ => ⟨i, e, hm i w2 q⟩)
theorem Ctr.monoZ {X : xC} {as : List xV} {n : Nat} {w : xW} {P P2 : Int → xW → Prop} (h : Ctr X as n w (pZ P)) (hm : ∀ v w2, (v = 0 ∨ v = 1) → P v w2 → P2 v w2) : Ctr X as n w (pZ P2) := h.mono (fun v w2 ⟨i, e, z, q⟩ => ⟨i, e, z, hm i w2 z q⟩)
theorem Ctr.monoV {X : xC} {as : List xV} {n : Nat} {w : xW} {P P2 : xW → Prop} (h : Ctr X as n w (pV P)) (hm : ∀ w2, P w2 → P2 w2) : Ctr X as n w (pV P2) := h.mono (fun v w2 ⟨e, q⟩ => ⟨e, hm w2 q⟩)
/-- f holds the list -/
def Lst (f : Nat → Int) (cs : List Int) : Prop := ∀ i, i < cs.length → f i = cs.getD i 0
def PcAt (w : xW) (r a : Nat) (cs : List Int) (mo : Int) : Prop := ∃ f, w r = xO 2 [xr a, xi cs.length, xi mo] ∧ w a = xA 14 f ∧ Lst f cs ∧ cs.length ≤ 14
/-- codes of notes -/
def Cod (cs : List Int) : Prop := ∀ i, i < cs.length → 0 ≤ cs.getD i 0 ∧ cs.getD i 0 < 240
/-- outside of these cells nothing has changed -/
def Fr2 (w w2 : xW) (r a : Nat) : Prop := ∀ q, q ≠ r → q ≠ a → w2 q = w q
theorem PcAt.fr {w w2 : xW} {r a : Nat} {cs : List Int} {mo : Int} (h : PcAt w r a cs mo) (h1 : w2 r = w r) (h2 : w2 a = w a) : PcAt w2 r a cs mo := by
  obtain ⟨f, q1, q2, q3⟩ := h
  exact ⟨f, h1.trans q1, h2.trans q2, q3⟩
theorem PcAt.ne {w : xW} {r a : Nat} {cs : List Int} {mo : Int} (h : PcAt w r a cs mo) : a ≠ r := by
  obtain ⟨f, q1, q2, q3⟩ := h
  rintro rfl
  rw [q2] at q1; cases q1
def posF (f : Nat → Int) (c : Int) : Nat → Nat
  | 0 => 0
  | k + 1 => if c < f k then posF f c k else k + 1
theorem posF_le (f : Nat → Int) (c : Int) : ∀ k, posF f c k ≤ k := by
  intro k
  induction k with
  | zero => exact Nat.le_refl _
  | succ k ih =>
    unfold posF
    split
    · omega
    · exact Nat.le_refl _
theorem posF_eq {f : Nat → Int} {c : Int} : ∀ (sz p : Nat), p ≤ sz → (∀ q, p ≤ q → q < sz → c < f q) → (p = 0 ∨ f (p - 1) ≤ c) → p = posF f c sz := by
  intro sz
  induction sz with
  | zero => intro p h1 _ _; exact Nat.le_zero.mp h1
  | succ k ih =>
    intro p h1 h2 h3
    unfold posF
    by_cases e : p = k + 1
    · subst e
      rw [if_neg]
      rcases h3 with h3 | h3
      · omega
      · rw [Nat.add_sub_cancel] at h3; omega
    · rw [if_pos (h2 k (by omega) (by omega))]
      exact ih p (by omega) (fun q a b => h2 q a (by omega)) h3
theorem posF_congr {f g : Nat → Int} {c : Int} : ∀ sz, (∀ i, i < sz → f i = g i) → posF f c sz = posF g c sz := by
  intro sz
  induction sz with
  | zero => intro _; rfl
  | succ k ih =>
    intro h
    unfold posF
    rw [h k (by omega), ih (fun i hi => h i (by omega))]
def posL (c : Int) (cs : List Int) : Nat := posF (fun i => cs.getD i 0) c cs.length
def insL (c : Int) (cs : List Int) : List Int := cs.insertIdx (posL c cs) c
def numL (c : Int) (cs : List Int) : Int := match cs.findIdx? (fun x => x == c) with
  | some k => k
  | none => -4
theorem posL_le (c : Int) (cs : List Int) : posL c cs ≤ cs.length := posF_le _ _ _
theorem insL_len (c : Int) (cs : List Int) : (insL c cs).length = cs.length + 1 := by
  unfold insL
  rw [List.length_insertIdx_of_le_length (posL_le c cs)]
theorem getD_at {cs : List Int} {i : Nat} (h : i < cs.length) : cs.getD i 0 = cs[i] := by simp [List.getD, h]
theorem numOf_L {f : Nat → Int} {cs : List Int} (hf : Lst f cs) {c v : Int} (h : numOf f cs.length c v) : v = numL c cs := by
  unfold numL
  rcases h with ⟨k, h1, h2, h3, h4⟩ | ⟨h1, h2⟩
  · have : cs.findIdx? (fun x => x == c) = some k := by
      rw [List.findIdx?_eq_some_iff_getElem]
      refine ⟨h1, ?_, fun j hj => ?_⟩
      · rw [← getD_at h1, ← hf k h1, h3]; simp
      · have := h4 j hj
        rw [hf j (by omega), getD_at (by omega)] at this
        simpa using this
    rw [this]; exact h2
  · have : cs.findIdx? (fun x => x == c) = none := by
      rw [List.findIdx?_eq_none_iff]
      intro x hx
      obtain ⟨j, hj, rfl⟩ := List.getElem_of_mem hx
      have := h2 j hj
      rw [hf j hj, getD_at hj] at this
      simpa using this
    rw [this]; exact h1
theorem ins_L {f : Nat → Int} {cs : List Int} (hf : Lst f cs) {c : Int} : Lst (insF f (posL c cs) cs.length c) (insL c cs) := by
  intro i hi
  rw [insL_len] at hi
  have hp := posL_le c cs
  unfold insF insL
  rw [List.getD_eq_getElem?_getD, List.getElem?_insertIdx]
  by_cases h1 : i < posL c cs
  · rw [if_pos h1, if_pos h1, hf i (by omega), List.getD_eq_getElem?_getD]
  · rw [if_neg h1, if_neg h1]
    by_cases h2 : i = posL c cs
    · rw [if_pos h2, if_pos h2, if_pos (by omega)]; rfl
    · rw [if_neg h2, if_pos (by omega), hf (i - 1) (by omega), List.getD_eq_getElem?_getD]
      first | rw [if_neg (Ne.symm h2)] | rw [if_neg h2] | skip
theorem del_L {f : Nat → Int} {cs : List Int} (hf : Lst f cs) {j : Nat} (hj : j < cs.length) : Lst (delF f j cs.length) (cs.eraseIdx j) := by
  intro i hi
  rw [List.length_eraseIdx_of_lt hj] at hi
  unfold delF
  rw [List.getD_eq_getElem?_getD, List.getElem?_eraseIdx]
  by_cases h1 : i < j
  · rw [if_pos h1, if_pos h1, hf i (by omega), List.getD_eq_getElem?_getD]
  · rw [if_neg h1, if_neg h1, if_pos (by omega), hf (i + 1) (by omega), List.getD_eq_getElem?_getD]
section PL
variable {n : Nat} {w : xW} {r a : Nat} {cs : List Int} {mo : Int}
theorem lX2_numberOf (h : PcAt w r a cs mo) {c : Int} : Ctr mX2_numberOf [xr r, xi c] n w (pI (fun v w2 => w2 = w ∧ v = numL c cs)) := by
  obtain ⟨f, h1, h2, h3, h4⟩ := h
  exact (tX2_numberOf h1 h2 h4).monoI (fun v w2 q => ⟨q.1, numOf_L h3 q.2⟩)
theorem lX2_insert (h : PcAt w r a cs mo) (hl : cs.length < 14) {c : Int} : Ctr mX2_insert [xr r, xi c] n w (pI (fun v w2 => v = posL c cs ∧ PcAt w2 r a (insL c cs) mo ∧ Fr2 w w2 r a)) := by
  have ne := h.ne
  obtain ⟨f, h1, h2, h3, h4⟩ := h
  refine (tX2_insert h1 h2 hl).monoI (fun v w2 q => ?_)
  obtain ⟨p, q1, q2, q3, q4, q5⟩ := q
  have hp : p = posL c cs := by
    have := posF_eq cs.length p q1 q2 q3
    rw [this]
    exact posF_congr _ (fun i hi => h3 i hi)
  subst hp
  refine ⟨q4, ⟨_, by rw [q5, up_s, insL_len]; rfl, by rw [q5, up_n ne, up_s], ins_L h3, by rw [insL_len]; omega⟩, fun q e1 e2 => by rw [q5, up_n e1, up_n e2]⟩
theorem lX2_remove (h : PcAt w r a cs mo) {j : Nat} (hj : j < cs.length) : Ctr mX2_remove [xr r, xi j] n w (pV (fun w2 => PcAt w2 r a (cs.eraseIdx j) mo ∧ Fr2 w w2 r a)) := by
  have ne := h.ne
  obtain ⟨f, h1, h2, h3, h4⟩ := h
  refine (tX2_remove h1 h2 h4 hj).monoV (fun w2 q => ?_)
  subst q
  refine ⟨⟨_, by rw [up_n ne.symm, up_s, List.length_eraseIdx_of_lt hj], by rw [up_s], del_L h3 hj, by rw [List.length_eraseIdx_of_lt hj]; omega⟩, fun q e1 e2 => by rw [up_n e2, up_n e1]⟩
theorem lX2_moveAll (h : PcAt w r a cs mo) (hc : Cod cs) {b : Int} (hb : -1000 ≤ b ∧ b ≤ 1000) : Ctr mX2_moveAll [xr r, xi b] n w (pV (fun w2 => PcAt w2 r a (cs.map (fun x => x + b)) mo ∧ Fr2 w w2 r a)) := by
  have ne := h.ne
  obtain ⟨f, h1, h2, h3, h4⟩ := h
  refine (tX2_moveAll h1 h2 h4 hb (fun k hk => by rw [h3 k hk]; have := hc k hk; omega)).monoV (fun w2 q => ?_)
  subst q
  refine ⟨⟨_, by rw [up_n ne.symm, h1, List.length_map], by rw [up_s], fun i hi => ?_, by rw [List.length_map]; exact h4⟩, fun q e1 e2 => by rw [up_n e2]⟩
  rw [List.length_map] at hi
  show (if i < cs.length then f i + b else f i) = _
  rw [if_pos hi, h3 i hi, getD_at hi, getD_at (cs := cs.map (fun x => x + b)) (by rw [List.length_map]; exact hi), List.getElem_map]
theorem lX2_copyFrom {s b : Nat} {ds : List Int} {m2 : Int} {u1 u2 : xV} {g : Nat → Int} (h_r : w r = xO 2 [xr a, u1, u2]) (h_a : w a = xA 14 g) (h2 : PcAt w s b ds m2) (hrs : r ≠ s) (hab : a ≠ b) : Ctr mX2_copyFrom [xr r, xr s] n w (pV (fun w2 => PcAt w2 r a ds m2 ∧ Fr2 w w2 r a)) := by
  have ne : a ≠ r := by rintro rfl; rw [h_a] at h_r; cases h_r
  obtain ⟨f, q1, q2, q3, q4⟩ := h2
  refine (tX2_copyFrom h_r h_a q1 q2 ⟨_, rfl⟩ ⟨_, rfl⟩ hrs hab).monoV (fun w2 q => ?_)
  subst q
  refine ⟨⟨_, by rw [up_s], by rw [up_n ne, up_n ne, up_s], fun i hi => ?_, q4⟩, fun q e1 e2 => by rw [up_n e1, up_n e1, up_n e2]⟩
  show (if i < 14 then f i else g i) = _
  rw [if_pos (by omega)]; exact q3 i hi
theorem lX2_timeOf (h : PcAt w r a cs mo) (hc : Cod cs) {i : Int} : Ctr mX2_timeOf [xr r, xi i] n w (pI (fun v w2 => w2 = w ∧ v = if 0 ≤ i ∧ i < cs.length then cs.getD i.toNat 0 / 12 else -4)) := by
  obtain ⟨f, h1, h2, h3, h4⟩ := h
  refine (tX2_timeOf h1 h2 h4 (fun k hk => by rw [h3 k hk]; exact (hc k hk).1)).monoI (fun v w2 q => ⟨q.1, q.2.trans ?_⟩)
  split
  · rw [h3 _ (by omega)]
  · rfl
theorem lX2_pitchOf (h : PcAt w r a cs mo) (hc : Cod cs) {i : Int} : Ctr mX2_pitchOf [xr r, xi i] n w (pI (fun v w2 => w2 = w ∧ v = if 0 ≤ i ∧ i < cs.length then cs.getD i.toNat 0 % 12 else -4)) := by
  obtain ⟨f, h1, h2, h3, h4⟩ := h
  refine (tX2_pitchOf h1 h2 h4 (fun k hk => by rw [h3 k hk]; exact (hc k hk).1)).monoI (fun v w2 q => ⟨q.1, q.2.trans ?_⟩)
  split
  · rw [h3 _ (by omega)]
  · rfl
theorem lX2_allNotes (h : PcAt w r a cs mo) : Ctr mX2_allNotes [xr r] n w (pI (fun v w2 => w2 = w ∧ v = ((2 ^ cs.length - 1 : Nat) : Int))) := by
  obtain ⟨f, h1, h2, h3, h4⟩ := h
  exact tX2_allNotes h1 h2 h4
end PL
end
section
/-! ===== the text ===== -/
def ch (tx : List Int) (i : Nat) : Int := tx.getD i (-1)
def isF (c : Int) : Prop := 48 ≤ c ∧ c ≤ 57
theorem ch_in {tx : List Int} {i : Nat} (h : i < tx.length) : ch tx i = tx.getD i 0 := by simp [ch, List.getD, h]
theorem ch_out {tx : List Int} {i : Nat} (h : tx.length ≤ i) : ch tx i = -1 := by simp [ch, List.getD, h]
theorem ch_lt {tx : List Int} {i : Nat} (h : ch tx i ≠ -1) : i < tx.length := by
  rcases Nat.lt_or_ge i tx.length with q | q
  · exact q
  · exact absurd (ch_out q) h
theorem up_self {w : xW} {k : Nat} {e : xE} (h : w k = e) : va_up w k e = w := by
  funext q
  by_cases e1 : q = k
  · subst e1; rw [up_s, h]
  · rw [up_n e1]
theorem up_up {α : Type} {w : Nat → α} {k : Nat} {e e2 : α} : va_up (va_up w k e) k e2 = va_up w k e2 := by
  funext q
  by_cases e1 : q = k
  · subst e1; rw [up_s, up_s]
  · rw [up_n e1, up_n e1, up_n e1]
def rdN (tx : List Int) (i : Nat) : Int × Nat := if 48 ≤ ch tx i ∧ ch tx i ≤ 57 then (if 48 ≤ ch tx (i + 1) ∧ ch tx (i + 1) ≤ 57 then ((ch tx i - 48) * 10 + (ch tx (i + 1) - 48), 2) else (ch tx i - 48, 1)) else (-4, 0)

abbrev mX4_skip : xC := mkC yX4_skip cX4_skip 2 (some .boolean) 1 100 0 0
set_option maxHeartbeats 4000000 in
set_option maxRecDepth 100000 in
theorem tX4_skip {n : Nat} {w : xW} {s l at_ : Nat} {tx : List Int} {t : Nat → Int} (h_s : w s = xO 4 [xr l, xi tx.length, xi at_]) (h_l : w l = xA 200 t) (ht : Lst t tx) (hlen : tx.length ≤ 200) (hat : at_ ≤ 200) {c : Int} (hc : 0 ≤ c) : Ctr mX4_skip [xr s, xi c] n w (pZ (fun v w2 => (v = 1 ∧ at_ < tx.length ∧ ch tx at_ = c ∧ w2 = va_up w s (xO 4 [xr l, xi tx.length, xi (at_ + 1 : Nat)])) ∨ (v = 0 ∧ ch tx at_ ≠ c ∧ w2 = w))) := by
  refine Ctr.of ykX4_skip rfl (Nat.le_of_ble_eq_true rfl) okZ (fun hin hW => ?_)
  have ne1 : l ≠ s := by rintro rfl; rw [h_l] at h_s; cases h_s
  show Ex _ _ 0 0 n w 0 [some (xr s), some (xi c)] []
  refine ex_aload_n (pc := 0) dX4_skip_0 rfl ?_
  refine ex_getfield (pc := 1) dX4_skip_1 fk_X4_27 h_s (by rfl) ?_
  refine ex_aload_n (pc := 4) dX4_skip_4 rfl ?_
  refine ex_getfield (pc := 5) dX4_skip_5 fk_X4_15 h_s (by rfl) ?_
  refine ex_icmp_ge (pc := 8) dX4_skip_8 (tgt := 24) (by decide) (fun c8 => ?_) (fun c8 => ?_)
  · refine ex_iconst (pc := 24) dX4_skip_24 (by decide) ?_
    exact ex_zret (pc := 25) dX4_skip_25 ⟨Or.inl rfl, Or.inr ⟨rfl, by rw [ch_out (by omega)]; omega, rfl⟩⟩ rfl (Nat.le_refl _)
  · refine ex_aload_n (pc := 11) dX4_skip_11 rfl ?_
    refine ex_getfield (pc := 12) dX4_skip_12 fk_X4_9 h_s (by rfl) ?_
    refine ex_aload_n (pc := 15) dX4_skip_15 rfl ?_
    refine ex_getfield (pc := 16) dX4_skip_16 fk_X4_27 h_s (by rfl) ?_
    refine ex_iaload (pc := 19) dX4_skip_19 h_l (by omega) (by omega) ?_
    have hk1 : ((at_ : Int)).toNat = at_ := by omega
    rw [hk1, ht at_ (by omega)]
    refine ex_iload_n (pc := 20) dX4_skip_20 rfl ?_
    refine ex_icmp_eq (pc := 21) dX4_skip_21 (tgt := 26) (by decide) (fun c21 => ?_) (fun c21 => ?_)
    · refine ex_aload_n (pc := 26) dX4_skip_26 rfl ?_
      refine ex_dup (pc := 27) dX4_skip_27 rfl ?_
      refine ex_getfield (pc := 28) dX4_skip_28 fk_X4_27 h_s (by rfl) ?_
      refine ex_iconst (pc := 31) dX4_skip_31 (by decide) ?_
      refine ex_iadd (pc := 32) dX4_skip_32 (by unfold inI; omega) ?_
      refine ex_putA (pc := 33) dX4_skip_33 fk_X4_27 (ty := tyX4 2) (fun _ _ _ h9 => by cases h9; exact ⟨tyX4_ok 2 (by decide), rfl⟩) h_s (Nat.le_of_ble_eq_true rfl) (fun _ => rfl) (fun _ => rfl) ?_
      refine ex_up (fun w1 e_w1 => ?_)
      have h1_s := (congrFun e_w1 s).trans up_s
      have h1_l := ((congrFun e_w1 l).trans (up_n (by first | assumption | decide | omega))).trans h_l
      refine ex_iconst (pc := 36) dX4_skip_36 (by decide) ?_
      exact ex_zret (pc := 37) dX4_skip_37 ⟨Or.inr rfl, Or.inl ⟨rfl, by omega, by rw [ch_in (by omega)]; exact c21, e_w1⟩⟩ rfl (Nat.le_refl _)
    · refine ex_iconst (pc := 24) dX4_skip_24 (by decide) ?_
      exact ex_zret (pc := 25) dX4_skip_25 ⟨Or.inl rfl, Or.inr ⟨rfl, by rw [ch_in (by omega)]; omega, rfl⟩⟩ rfl (Nat.le_refl _)

abbrev mX4_isFigure : xC := mkC yX4_isFigure cX4_isFigure 1 (some .boolean) 1 100 0 0
set_option maxHeartbeats 4000000 in
set_option maxRecDepth 100000 in
theorem tX4_isFigure {n : Nat} {w : xW} {s l at_ : Nat} {tx : List Int} {t : Nat → Int} (h_s : w s = xO 4 [xr l, xi tx.length, xi at_]) (h_l : w l = xA 200 t) (ht : Lst t tx) (hlen : tx.length ≤ 200) (hat : at_ ≤ 200) : Ctr mX4_isFigure [xr s] n w (pZ (fun v w2 => w2 = w ∧ (v = 1 ↔ 48 ≤ ch tx at_ ∧ ch tx at_ ≤ 57))) := by
  refine Ctr.of ykX4_isFigure rfl (Nat.le_of_ble_eq_true rfl) okZ (fun hin hW => ?_)
  show Ex _ _ 0 0 n w 0 [some (xr s)] []
  refine ex_aload_n (pc := 0) dX4_isFigure_0 rfl ?_
  refine ex_getfield (pc := 1) dX4_isFigure_1 fk_X4_27 h_s (by rfl) ?_
  refine ex_aload_n (pc := 4) dX4_isFigure_4 rfl ?_
  refine ex_getfield (pc := 5) dX4_isFigure_5 fk_X4_15 h_s (by rfl) ?_
  refine ex_icmp_ge (pc := 8) dX4_isFigure_8 (tgt := 43) (by decide) (fun c8 => ?_) (fun c8 => ?_)
  · refine ex_iconst (pc := 43) dX4_isFigure_43 (by decide) ?_
    exact ex_zret (pc := 44) dX4_isFigure_44 ⟨Or.inl rfl, rfl, by rw [ch_out (by omega)]; omega⟩ rfl (Nat.le_refl _)
  · refine ex_aload_n (pc := 11) dX4_isFigure_11 rfl ?_
    refine ex_getfield (pc := 12) dX4_isFigure_12 fk_X4_9 h_s (by rfl) ?_
    refine ex_aload_n (pc := 15) dX4_isFigure_15 rfl ?_
    refine ex_getfield (pc := 16) dX4_isFigure_16 fk_X4_27 h_s (by rfl) ?_
    refine ex_iaload (pc := 19) dX4_isFigure_19 h_l (by omega) (by omega) ?_
    have hk1 : ((at_ : Int)).toNat = at_ := by omega
    rw [hk1, ht at_ (by omega)]
    refine ex_bipush (pc := 20) dX4_isFigure_20 (by decide) ?_
    refine ex_icmp_lt (pc := 22) dX4_isFigure_22 (tgt := 43) (by decide) (fun c22 => ?_) (fun c22 => ?_)
    · refine ex_iconst (pc := 43) dX4_isFigure_43 (by decide) ?_
      exact ex_zret (pc := 44) dX4_isFigure_44 ⟨by omega, rfl, by rw [ch_in (by omega)]; omega⟩ rfl (Nat.le_refl _)
    · refine ex_aload_n (pc := 25) dX4_isFigure_25 rfl ?_
      refine ex_getfield (pc := 26) dX4_isFigure_26 fk_X4_9 h_s (by rfl) ?_
      refine ex_aload_n (pc := 29) dX4_isFigure_29 rfl ?_
      refine ex_getfield (pc := 30) dX4_isFigure_30 fk_X4_27 h_s (by rfl) ?_
      refine ex_iaload (pc := 33) dX4_isFigure_33 h_l (by omega) (by omega) ?_
      rw [hk1, ht at_ (by omega)]
      refine ex_bipush (pc := 34) dX4_isFigure_34 (by decide) ?_
      refine ex_icmp_gt (pc := 36) dX4_isFigure_36 (tgt := 43) (by decide) (fun c36 => ?_) (fun c36 => ?_)
      · refine ex_iconst (pc := 43) dX4_isFigure_43 (by decide) ?_
        exact ex_zret (pc := 44) dX4_isFigure_44 ⟨by omega, rfl, by rw [ch_in (by omega)]; omega⟩ rfl (Nat.le_refl _)
      · refine ex_iconst (pc := 39) dX4_isFigure_39 (by decide) ?_
        refine ex_goto (pc := 40) dX4_isFigure_40 (tgt := 44) (by decide) ?_
        exact ex_zret (pc := 44) dX4_isFigure_44 ⟨by omega, rfl, by rw [ch_in (by omega)]; omega⟩ rfl (Nat.le_refl _)

abbrev mX4_readNumber : xC := mkC yX4_readNumber cX4_readNumber 3 (some .int) 2 200 0 0
set_option maxHeartbeats 4000000 in
set_option maxRecDepth 100000 in
theorem tX4_readNumber {n : Nat} {w : xW} {s l at_ : Nat} {tx : List Int} {t : Nat → Int} (h_s : w s = xO 4 [xr l, xi tx.length, xi at_]) (h_l : w l = xA 200 t) (ht : Lst t tx) (hlen : tx.length ≤ 200) (hat : at_ ≤ 200) : Ctr mX4_readNumber [xr s] n w (pI (fun v w2 => v = (rdN tx at_).1 ∧ w2 = va_up w s (xO 4 [xr l, xi tx.length, xi (at_ + (rdN tx at_).2 : Nat)]))) := by
  refine Ctr.of ykX4_readNumber rfl (Nat.le_of_ble_eq_true rfl) okI (fun hin hW => ?_)
  have ne1 : l ≠ s := by rintro rfl; rw [h_l] at h_s; cases h_s
  show Ex _ _ 0 0 n w 0 [some (xr s), none, none] []
  refine ex_bipush (pc := 0) dX4_readNumber_0 (by decide) ?_
  refine ex_istore_n (L2 := [_, _, _]) (pc := 2) dX4_readNumber_2 rfl (Nat.le_of_ble_eq_true rfl) rfl ?_
  refine ex_iconst (pc := 3) dX4_readNumber_3 (by decide) ?_
  refine ex_istore_n (L2 := [_, _, _]) (pc := 4) dX4_readNumber_4 rfl (Nat.le_of_ble_eq_true rfl) rfl ?_
  refine ex_iload_n (pc := 5) dX4_readNumber_5 rfl ?_
  refine ex_iconst (pc := 6) dX4_readNumber_6 (by decide) ?_
  refine ex_icmp_ge (pc := 7) dX4_readNumber_7 (tgt := 55) (by decide) (fun c7 => by exfalso; omega) (fun c7 => ?_)
  refine ex_aload_n (pc := 10) dX4_readNumber_10 rfl ?_
  refine ex_callVZ (as := []) (pc := 11) dX4_readNumber_11 (tX4_isFigure h_s h_l ht hlen hat) lk_X4_63 ykX4_isFigure vkX4_isFigure h_s rfl rfl rfl (Nat.le_of_ble_eq_true rfl) ⟨by decide, by decide⟩ ⟨Nat.le_refl _, Nat.le_refl _⟩ (fun i11 w1 r11 p11 => ?_)
  obtain ⟨e11, pA⟩ := p11
  subst e11
  refine ex_if_eq (pc := 14) dX4_readNumber_14 (tgt := 55) (by decide) (fun c14 => ?_) (fun c14 => ?_)
  · refine ex_iload_n (pc := 55) dX4_readNumber_55 rfl ?_
    exact ex_iret (pc := 56) dX4_readNumber_56 ⟨by unfold rdN; rw [if_neg (by omega)], by unfold rdN; rw [if_neg (by omega)]; exact (up_self h_s).symm⟩ rfl (Nat.le_refl _)
  · refine ex_iload_n (pc := 17) dX4_readNumber_17 rfl ?_
    refine ex_iconst (pc := 18) dX4_readNumber_18 (by decide) ?_
    refine ex_max (pc := 19) dX4_readNumber_19 wl_X4_67 (by decide) (Nat.le_of_ble_eq_true rfl) (Nat.le_refl _) (Nat.le_refl _) ?_
    have hA := pA.mp (by omega)
    have hl0 : at_ < tx.length := ch_lt (by omega)
    refine ex_eq (x := 0) (by decide) ?_
    refine ex_bipush (pc := 22) dX4_readNumber_22 (by decide) ?_
    refine ex_imul (pc := 24) dX4_readNumber_24 (by unfold inI; omega) ?_
    refine ex_aload_n (pc := 25) dX4_readNumber_25 rfl ?_
    refine ex_getfield (pc := 26) dX4_readNumber_26 fk_X4_9 h_s (by rfl) ?_
    refine ex_aload_n (pc := 29) dX4_readNumber_29 rfl ?_
    refine ex_getfield (pc := 30) dX4_readNumber_30 fk_X4_27 h_s (by rfl) ?_
    refine ex_iaload (pc := 33) dX4_readNumber_33 h_l (by omega) (by omega) ?_
    have hk1 : ((at_ : Int)).toNat = at_ := by omega
    rw [hk1, ht at_ hl0, ← ch_in hl0]
    refine ex_iadd (pc := 34) dX4_readNumber_34 (by unfold inI; omega) ?_
    refine ex_bipush (pc := 35) dX4_readNumber_35 (by decide) ?_
    refine ex_isub (pc := 37) dX4_readNumber_37 (by unfold inI; omega) ?_
    refine ex_istore_n (L2 := [_, _, _]) (pc := 38) dX4_readNumber_38 rfl (Nat.le_of_ble_eq_true rfl) rfl ?_
    refine ex_aload_n (pc := 39) dX4_readNumber_39 rfl ?_
    refine ex_dup (pc := 40) dX4_readNumber_40 rfl ?_
    refine ex_getfield (pc := 41) dX4_readNumber_41 fk_X4_27 h_s (by rfl) ?_
    refine ex_iconst (pc := 44) dX4_readNumber_44 (by decide) ?_
    refine ex_iadd (pc := 45) dX4_readNumber_45 (by unfold inI; omega) ?_
    refine ex_putA (pc := 46) dX4_readNumber_46 fk_X4_27 (ty := tyX4 2) (fun _ _ _ h9 => by cases h9; exact ⟨tyX4_ok 2 (by decide), rfl⟩) h_s (Nat.le_of_ble_eq_true rfl) (fun _ => rfl) (fun _ => rfl) ?_
    refine ex_up (fun w1 e_w1 => ?_)
    have h1_s := (congrFun e_w1 s).trans up_s
    have h1_l := ((congrFun e_w1 l).trans (up_n (by first | assumption | decide | omega))).trans h_l
    refine ex_iinc (L2 := [_, _, _]) (pc := 49) dX4_readNumber_49 rfl rfl (Nat.le_of_ble_eq_true rfl) (by unfold inI; omega) rfl ?_
    refine ex_goto (pc := 52) dX4_readNumber_52 (tgt := 5) (by decide) ?_
    refine ex_iload_n (pc := 5) dX4_readNumber_5 rfl ?_
    refine ex_iconst (pc := 6) dX4_readNumber_6 (by decide) ?_
    refine ex_icmp_ge (pc := 7) dX4_readNumber_7 (tgt := 55) (by decide) (fun c7 => by exfalso; omega) (fun c7 => ?_)
    refine ex_aload_n (pc := 10) dX4_readNumber_10 rfl ?_
    refine ex_callVZ (as := []) (pc := 11) dX4_readNumber_11 (tX4_isFigure (at_ := at_ + 1) h1_s h1_l ht hlen (by omega)) lk_X4_63 ykX4_isFigure vkX4_isFigure h1_s rfl rfl rfl (Nat.le_of_ble_eq_true rfl) ⟨by decide, by decide⟩ ⟨Nat.le_refl _, Nat.le_refl _⟩ (fun i11 w2 r11 p11 => ?_)
    obtain ⟨e11, pB⟩ := p11
    subst e11
    refine ex_if_eq (pc := 14) dX4_readNumber_14 (tgt := 55) (by decide) (fun c14 => ?_) (fun c14 => ?_)
    · refine ex_iload_n (pc := 55) dX4_readNumber_55 rfl ?_
      have hA2 := pA.mp (by omega)
      exact ex_iret (pc := 56) dX4_readNumber_56 ⟨by unfold rdN; rw [if_pos hA2, if_neg (by omega)]; show _ = ch tx at_ - 48; omega, by unfold rdN; rw [if_pos hA2, if_neg (by omega)]; exact e_w1⟩ rfl (Nat.le_refl _)
    · refine ex_iload_n (pc := 17) dX4_readNumber_17 rfl ?_
      refine ex_iconst (pc := 18) dX4_readNumber_18 (by decide) ?_
      refine ex_max (pc := 19) dX4_readNumber_19 wl_X4_67 (by decide) (Nat.le_of_ble_eq_true rfl) (Nat.le_refl _) (Nat.le_refl _) ?_
      have hB := pB.mp (by omega)
      have hl1 : at_ + 1 < tx.length := ch_lt (by omega)
      refine ex_eq (if_neg (by omega)) ?_
      refine ex_bipush (pc := 22) dX4_readNumber_22 (by decide) ?_
      refine ex_imul (pc := 24) dX4_readNumber_24 (by unfold inI; omega) ?_
      refine ex_aload_n (pc := 25) dX4_readNumber_25 rfl ?_
      refine ex_getfield (pc := 26) dX4_readNumber_26 fk_X4_9 h1_s (by rfl) ?_
      refine ex_aload_n (pc := 29) dX4_readNumber_29 rfl ?_
      refine ex_getfield (pc := 30) dX4_readNumber_30 fk_X4_27 h1_s (by rfl) ?_
      refine ex_iaload (pc := 33) dX4_readNumber_33 h1_l (by omega) (by omega) ?_
      have hk2 : ((at_ : Int) + 1).toNat = at_ + 1 := by omega
      rw [hk2, ht (at_ + 1) hl1, ← ch_in hl1]
      refine ex_iadd (pc := 34) dX4_readNumber_34 (by unfold inI; omega) ?_
      refine ex_bipush (pc := 35) dX4_readNumber_35 (by decide) ?_
      refine ex_isub (pc := 37) dX4_readNumber_37 (by unfold inI; omega) ?_
      refine ex_istore_n (L2 := [_, _, _]) (pc := 38) dX4_readNumber_38 rfl (Nat.le_of_ble_eq_true rfl) rfl ?_
      refine ex_aload_n (pc := 39) dX4_readNumber_39 rfl ?_
      refine ex_dup (pc := 40) dX4_readNumber_40 rfl ?_
      refine ex_getfield (pc := 41) dX4_readNumber_41 fk_X4_27 h1_s (by rfl) ?_
      refine ex_iconst (pc := 44) dX4_readNumber_44 (by decide) ?_
      refine ex_iadd (pc := 45) dX4_readNumber_45 (by unfold inI; omega) ?_
      refine ex_putA (pc := 46) dX4_readNumber_46 fk_X4_27 (ty := tyX4 2) (fun _ _ _ h9 => by cases h9; exact ⟨tyX4_ok 2 (by decide), rfl⟩) h1_s (Nat.le_of_ble_eq_true rfl) (fun _ => rfl) (fun _ => rfl) ?_
      refine ex_up (fun w2 e_w2 => ?_)
      have h2_s := (congrFun e_w2 s).trans up_s
      have h2_l := ((congrFun e_w2 l).trans (up_n (by first | assumption | decide | omega))).trans h1_l
      refine ex_iinc (L2 := [_, _, _]) (pc := 49) dX4_readNumber_49 rfl rfl (Nat.le_of_ble_eq_true rfl) (by unfold inI; omega) rfl ?_
      refine ex_goto (pc := 52) dX4_readNumber_52 (tgt := 5) (by decide) ?_
      refine ex_iload_n (pc := 5) dX4_readNumber_5 rfl ?_
      refine ex_iconst (pc := 6) dX4_readNumber_6 (by decide) ?_
      refine ex_icmp_ge (pc := 7) dX4_readNumber_7 (tgt := 55) (by decide) (fun c7 => ?_) (fun c7 => by exfalso; omega)
      refine ex_iload_n (pc := 55) dX4_readNumber_55 rfl ?_
      exact ex_iret (pc := 56) dX4_readNumber_56 ⟨by unfold rdN; rw [if_pos hA, if_pos hB]; show _ = (ch tx at_ - 48) * 10 + (ch tx (at_ + 1) - 48); omega, by unfold rdN; rw [if_pos hA, if_pos hB]; rw [e_w2, e_w1]; exact up_up⟩ rfl (Nat.le_refl _)

abbrev mX4_append : xC := mkC yX4_append cX4_append 2 (some .boolean) 1 100 0 0
set_option maxHeartbeats 4000000 in
set_option maxRecDepth 100000 in
theorem tX4_append {n : Nat} {w : xW} {s l at_ : Nat} {tx : List Int} {t : Nat → Int} (h_s : w s = xO 4 [xr l, xi tx.length, xi at_]) (h_l : w l = xA 200 t) (ht : Lst t tx) (hlen : tx.length ≤ 200) (hat : at_ ≤ 200) {c : Int} : Ctr mX4_append [xr s, xi c] n w (pZ (fun v w2 => (tx.length < 200 → v = 1 ∧ w2 = va_up (va_up w l (xA 200 (va_up t tx.length c))) s (xO 4 [xr l, xi (tx.length + 1 : Nat), xi at_])) ∧ (¬ tx.length < 200 → v = 0 ∧ w2 = w))) := by
  refine Ctr.of ykX4_append rfl (Nat.le_of_ble_eq_true rfl) okZ (fun hin hW => ?_)
  have ne1 : l ≠ s := by rintro rfl; rw [h_l] at h_s; cases h_s
  have ne2 : s ≠ l := fun q => ne1 q.symm
  show Ex _ _ 0 0 n w 0 [some (xr s), some (xi c)] []
  refine ex_aload_n (pc := 0) dX4_append_0 rfl ?_
  refine ex_getfield (pc := 1) dX4_append_1 fk_X4_15 h_s (by rfl) ?_
  refine ex_sipush (pc := 4) dX4_append_4 (by decide) ?_
  refine ex_icmp_lt (pc := 7) dX4_append_7 (tgt := 12) (by decide) (fun c7 => ?_) (fun c7 => ?_)
  · refine ex_aload_n (pc := 12) dX4_append_12 rfl ?_
    refine ex_getfield (pc := 13) dX4_append_13 fk_X4_9 h_s (by rfl) ?_
    refine ex_aload_n (pc := 16) dX4_append_16 rfl ?_
    refine ex_getfield (pc := 17) dX4_append_17 fk_X4_15 h_s (by rfl) ?_
    refine ex_iload_n (pc := 20) dX4_append_20 rfl ?_
    refine ex_iastore (pc := 21) dX4_append_21 h_l (by omega) (by omega) ?_
    refine ex_up (fun w1 e_w1 => ?_)
    have h1_s := ((congrFun e_w1 s).trans (up_n (by first | assumption | decide | omega))).trans h_s
    have h1_l := (congrFun e_w1 l).trans up_s
    refine ex_aload_n (pc := 22) dX4_append_22 rfl ?_
    refine ex_dup (pc := 23) dX4_append_23 rfl ?_
    refine ex_getfield (pc := 24) dX4_append_24 fk_X4_15 h1_s (by rfl) ?_
    refine ex_iconst (pc := 27) dX4_append_27 (by decide) ?_
    refine ex_iadd (pc := 28) dX4_append_28 (by unfold inI; omega) ?_
    refine ex_putA (pc := 29) dX4_append_29 fk_X4_15 (ty := tyX4 1) (fun _ _ _ h9 => by cases h9; exact ⟨tyX4_ok 1 (by decide), rfl⟩) h1_s (Nat.le_of_ble_eq_true rfl) (fun _ => rfl) (fun _ => rfl) ?_
    refine ex_up (fun w2 e_w2 => ?_)
    have h2_s := (congrFun e_w2 s).trans up_s
    have h2_l := ((congrFun e_w2 l).trans (up_n (by first | assumption | decide | omega))).trans h1_l
    refine ex_iconst (pc := 32) dX4_append_32 (by decide) ?_
    exact ex_zret (pc := 33) dX4_append_33 ⟨Or.inr rfl, fun _ => ⟨rfl, by rw [e_w2, e_w1]; rfl⟩, fun q => by omega⟩ rfl (Nat.le_refl _)
  · refine ex_iconst (pc := 10) dX4_append_10 (by decide) ?_
    exact ex_zret (pc := 11) dX4_append_11 ⟨Or.inl rfl, fun q => by omega, fun _ => ⟨rfl, rfl⟩⟩ rfl (Nat.le_refl _)

set_option maxHeartbeats 4000000 in
set_option maxRecDepth 100000 in
theorem tX2_insertFull {n : Nat} {w : xW} {r a : Nat} {mo : Int} {f : Nat → Int} {c : Int} (h_r : w r = xO 2 [xr a, xi 14, xi mo]) : Ctr mX2_insert [xr r, xi c] n w (pI (fun v w2 => w2 = w ∧ v = -3)) := by
  refine Ctr.of ykX2_insert rfl (Nat.le_of_ble_eq_true rfl) okI (fun hin hW => ?_)
  show Ex _ _ 0 0 n w 0 [some (xr r), some (xi c), none] []
  refine ex_aload_n (pc := 0) dX2_insert_0 rfl ?_
  refine ex_getfield (pc := 1) dX2_insert_1 fk_X2_15 h_r (by rfl) ?_
  refine ex_bipush (pc := 4) dX2_insert_4 (by decide) ?_
  refine ex_icmp_lt (pc := 6) dX2_insert_6 (tgt := 12) (by decide) (fun c6 => by exfalso; omega) (fun c6 => ?_)
  refine ex_bipush (pc := 9) dX2_insert_9 (by decide) ?_
  exact ex_iret (pc := 11) dX2_insert_11 ⟨rfl, rfl⟩ rfl (Nat.le_refl _)

def ScAt (w : xW) (s l : Nat) (tx : List Int) (at_ : Nat) : Prop := ∃ t, w s = xO 4 [xr l, xi tx.length, xi at_] ∧ w l = xA 200 t ∧ Lst t tx ∧ tx.length ≤ 200
theorem ScAt.ne {w : xW} {s l : Nat} {tx : List Int} {at_ : Nat} (h : ScAt w s l tx at_) : l ≠ s := by
  obtain ⟨t, q1, q2, -⟩ := h
  rintro rfl
  rw [q2] at q1; cases q1
theorem ScAt.put {w : xW} {s l : Nat} {tx : List Int} {at_ : Nat} (h : ScAt w s l tx at_) {b : Nat} : ScAt (va_up w s (xO 4 [xr l, xi tx.length, xi b])) s l tx b := by
  have ne := h.ne
  obtain ⟨t, q1, q2, q3, q4⟩ := h
  exact ⟨t, up_s, (up_n ne).trans q2, q3, q4⟩
theorem ScAt.fr {w w2 : xW} {s l : Nat} {tx : List Int} {at_ : Nat} (h : ScAt w s l tx at_) (h1 : w2 s = w s) (h2 : w2 l = w l) : ScAt w2 s l tx at_ := by
  obtain ⟨t, q1, q2, q3⟩ := h
  exact ⟨t, h1.trans q1, h2.trans q2, q3⟩
theorem PcAt.neS {w : xW} {r a s l : Nat} {cs : List Int} {mo : Int} {tx : List Int} {at_ : Nat} (h : PcAt w r a cs mo) (h2 : ScAt w s l tx at_) : r ≠ s ∧ a ≠ s ∧ r ≠ l := by
  obtain ⟨f, q1, q2, -⟩ := h
  obtain ⟨t, q3, q4, -⟩ := h2
  refine ⟨?_, ?_, ?_⟩ <;> rintro rfl
  · rw [q1] at q3; cases q3
  · rw [q2] at q3; cases q3
  · rw [q1] at q4; cases q4
/-- a number and the sign behind it -/
def numS (tx : List Int) (i : Nat) (sign : Int) : Option (Int × Nat) := if 0 < (rdN tx i).2 ∧ ch tx (i + (rdN tx i).2) = sign then some ((rdN tx i).1, i + (rdN tx i).2 + 1) else none
def noteS (tx : List Int) (i : Nat) : Option (Int × Nat) := match numS tx i 44 with
  | none => none
  | some (tm, j) => if 19 < tm then none else match numS tx j 59 with
    | none => none
    | some (pt, j2) => if 11 < pt then none else some (tm * 12 + pt, j2)
def mannS (tx : List Int) (i : Nat) : Option (Int × Nat) := match numS tx i 59 with
  | none => none
  | some (m, j) => if 2 < m then none else some (m, j)
theorem rdN_cases (tx : List Int) (i : Nat) : ((rdN tx i).2 = 0 ∧ (rdN tx i).1 = -4) ∨ ((rdN tx i).2 ≥ 1 ∧ (rdN tx i).2 ≤ 2 ∧ 0 ≤ (rdN tx i).1 ∧ (rdN tx i).1 ≤ 99 ∧ i + (rdN tx i).2 ≤ tx.length) := by
  unfold rdN
  split
  · rename_i h
    have h1 : i < tx.length := ch_lt (by omega)
    split
    · rename_i h2
      have h3 : i + 1 < tx.length := ch_lt (by omega)
      right
      refine ⟨?_, ?_, ?_, ?_, ?_⟩ <;> simp only <;> omega
    · right
      refine ⟨?_, ?_, ?_, ?_, ?_⟩ <;> simp only <;> omega
  · left; exact ⟨rfl, rfl⟩
end
section
def Fr3 (w w2 : xW) (s r a : Nat) : Prop := ∀ q, q ≠ s → q ≠ r → q ≠ a → w2 q = w q
section SL
variable {n : Nat} {w : xW} {s l at_ : Nat} {tx : List Int}
theorem lX4_skip (h : ScAt w s l tx at_) (hat : at_ ≤ tx.length) {c : Int} (hc : 0 ≤ c) : Ctr mX4_skip [xr s, xi c] n w (pZ (fun v w2 => (v = 1 ∧ at_ < tx.length ∧ ch tx at_ = c ∧ ScAt w2 s l tx (at_ + 1) ∧ ∀ q, q ≠ s → w2 q = w q) ∨ (v = 0 ∧ ch tx at_ ≠ c ∧ w2 = w))) := by
  have h0 := h
  obtain ⟨t, h1, h2, h3, h4⟩ := h
  refine (tX4_skip h1 h2 h3 h4 (by omega) hc).monoZ (fun v w2 z q => ?_)
  rcases q with ⟨a, b, c1, d⟩ | q
  · exact Or.inl ⟨a, b, c1, by rw [d]; exact h0.put, fun q e => by rw [d, up_n e]⟩
  · exact Or.inr q
theorem lX4_readNumber (h : ScAt w s l tx at_) (hat : at_ ≤ tx.length) : Ctr mX4_readNumber [xr s] n w (pI (fun v w2 => v = (rdN tx at_).1 ∧ ScAt w2 s l tx (at_ + (rdN tx at_).2) ∧ at_ + (rdN tx at_).2 ≤ tx.length ∧ ∀ q, q ≠ s → w2 q = w q)) := by
  have h0 := h
  obtain ⟨t, h1, h2, h3, h4⟩ := h
  refine (tX4_readNumber h1 h2 h3 h4 (by omega)).monoI (fun v w2 q => ?_)
  obtain ⟨a, d⟩ := q
  refine ⟨a, by rw [d]; exact h0.put, ?_, fun q e => by rw [d, up_n e]⟩
  rcases rdN_cases tx at_ with q | q <;> omega
end SL
theorem ScAt.s {w : xW} {s l : Nat} {tx : List Int} {at_ : Nat} (h : ScAt w s l tx at_) : w s = xO 4 [xr l, xi tx.length, xi at_] := by
  obtain ⟨t, q1, -⟩ := h; exact q1
theorem PcAt.r {w : xW} {r a : Nat} {cs : List Int} {mo : Int} (h : PcAt w r a cs mo) : w r = xO 2 [xr a, xi cs.length, xi mo] := by
  obtain ⟨t, q1, -⟩ := h; exact q1
theorem PcAt.len {w : xW} {r a : Nat} {cs : List Int} {mo : Int} (h : PcAt w r a cs mo) : cs.length ≤ 14 := by
  obtain ⟨t, q1, q2, q3, q4⟩ := h; exact q4
theorem numL_lt {c : Int} {cs : List Int} (h : numL c cs < 0) : numL c cs = -4 := by
  unfold numL at *
  split at h
  · omega
  · rfl
theorem lX2_insertFull {n : Nat} {w : xW} {r a : Nat} {cs : List Int} {mo c : Int} (h : PcAt w r a cs mo) (hl : cs.length = 14) : Ctr mX2_insert [xr r, xi c] n w (pI (fun v w2 => w2 = w ∧ v = -3)) := by
  obtain ⟨f, h1, -⟩ := h
  rw [hl] at h1
  exact tX2_insertFull (f := f) h1
abbrev mX4_readManner : xC := mkC yX4_readManner cX4_readManner 3 (some .boolean) 3 300 0 0
set_option maxHeartbeats 4000000 in
set_option maxRecDepth 100000 in
theorem tX4_readManner {n : Nat} {w : xW} {s l r a at_ : Nat} {tx cs : List Int} {mo : Int} (hs : ScAt w s l tx at_) (hp : PcAt w r a cs mo) (hla : l ≠ a) (hat : at_ ≤ tx.length) : Ctr mX4_readManner [xr s, xr r] n w (pZ (fun v w2 => (v = 1 ∧ ∃ (m : Int) (j : Nat), mannS tx at_ = some (m, j) ∧ j ≤ tx.length ∧ ScAt w2 s l tx j ∧ PcAt w2 r a cs m ∧ Fr3 w w2 s r a) ∨ (v = 0 ∧ (mannS tx at_ = none) ∧ ∃ b : Nat, ScAt w2 s l tx b ∧ PcAt w2 r a cs mo ∧ Fr3 w w2 s r a))) := by
  refine Ctr.of ykX4_readManner rfl (Nat.le_of_ble_eq_true rfl) okZ (fun hin hW => ?_)
  show Ex _ _ 0 0 n w 0 [some (xr s), some (xr r), none] []
  obtain ⟨nrs, nas, nrl⟩ := hp.neS hs
  have nls := hs.ne
  have nar := hp.ne
  have h_s := hs.s
  have h_r := hp.r
  refine ex_aload_n (pc := 0) dX4_readManner_0 rfl ?_
  refine ex_callVI (as := []) (pc := 1) dX4_readManner_1 (lX4_readNumber hs hat) lk_X4_44 ykX4_readNumber vkX4_readNumber h_s rfl rfl rfl (Nat.le_of_ble_eq_true rfl) ⟨by decide, by decide⟩ ⟨Nat.le_refl _, Nat.le_refl _⟩ (fun v1 w1 r1 p1 => ?_)
  obtain ⟨ev, s1, b1, f1⟩ := p1
  have hr1 : PcAt w1 r a cs mo := hp.fr (f1 r nrs) (f1 a nas)
  have h_s1 := s1.s
  generalize hk : at_ + (rdN tx at_).2 = a1 at s1 b1 h_s1
  refine ex_istore_n (L2 := [_, _, _]) (pc := 4) dX4_readManner_4 rfl (Nat.le_of_ble_eq_true rfl) rfl ?_
  refine ex_aload_n (pc := 5) dX4_readManner_5 rfl ?_
  refine ex_bipush (pc := 6) dX4_readManner_6 (by decide) ?_
  refine ex_callVZ (as := [_]) (pc := 8) dX4_readManner_8 (lX4_skip s1 b1 (by omega)) lk_X4_34 ykX4_skip vkX4_skip h_s1 rfl rfl rfl (Nat.le_of_ble_eq_true rfl) ⟨by decide, by decide⟩ ⟨Nat.le_refl _, Nat.le_refl _⟩ (fun v8 w2 r8 p8 => ?_)
  rcases p8 with ⟨rfl, b2, c2, s2, f2⟩ | ⟨rfl, c2, rfl⟩
  · refine ex_if_eq (pc := 11) dX4_readManner_11 (tgt := 23) (by decide) (fun c11 => by exfalso; omega) (fun c11 => ?_)
    have hr2 : PcAt w2 r a cs mo := hr1.fr (f2 r nrs) (f2 a nas)
    refine ex_iload_n (pc := 14) dX4_readManner_14 rfl ?_
    have fr2 : Fr3 w w2 s r a := fun q e1 _ _ => (f2 q e1).trans (f1 q e1)
    have hcase := rdN_cases tx at_
    refine ex_if_lt (pc := 15) dX4_readManner_15 (tgt := 23) (by decide) (fun c15 => ?_) (fun c15 => ?_)
    · refine ex_iconst (pc := 23) dX4_readManner_23 (by decide) ?_
      exact ex_zret (pc := 24) dX4_readManner_24 ⟨Or.inl rfl, Or.inr ⟨rfl, by unfold mannS numS; rw [if_neg (by omega)], _, s2, hr2, fr2⟩⟩ rfl (Nat.le_refl _)
    · refine ex_iload_n (pc := 18) dX4_readManner_18 rfl ?_
      refine ex_iconst (pc := 19) dX4_readManner_19 (by decide) ?_
      have hnum : numS tx at_ 59 = some (v1, a1 + 1) := by unfold numS; rw [if_pos ⟨by omega, by rw [hk]; exact c2⟩, ev, hk]
      refine ex_icmp_le (pc := 20) dX4_readManner_20 (tgt := 25) (by decide) (fun c20 => ?_) (fun c20 => ?_)
      · refine ex_aload_n (pc := 25) dX4_readManner_25 rfl ?_
        refine ex_iload_n (pc := 26) dX4_readManner_26 rfl ?_
        refine ex_putA (pc := 27) dX4_readManner_27 fk_X4_24 (ty := tyX2 2) (fun _ _ _ h9 => by cases h9; exact ⟨tyX2_ok 2 (by decide), rfl⟩) hr2.r (Nat.le_of_ble_eq_true rfl) (fun _ => rfl) (fun _ => rfl) ?_
        refine ex_iconst (pc := 30) dX4_readManner_30 (by decide) ?_
        refine ex_zret (pc := 31) dX4_readManner_31 ⟨Or.inr rfl, Or.inl ⟨rfl, v1, a1 + 1, by unfold mannS; rw [hnum]; exact if_neg (by omega), by omega, s2.fr (up_n nrs.symm) (up_n nrl.symm), ?_, fun q e1 e2 e3 => (up_n e2).trans (fr2 q e1 e2 e3)⟩⟩ rfl (Nat.le_refl _)
        obtain ⟨f, g1, g2, g3⟩ := hr2
        exact ⟨f, up_s, (up_n nar).trans g2, g3⟩
      · refine ex_iconst (pc := 23) dX4_readManner_23 (by decide) ?_
        exact ex_zret (pc := 24) dX4_readManner_24 ⟨Or.inl rfl, Or.inr ⟨rfl, by unfold mannS; rw [hnum]; exact if_pos (by omega), _, s2, hr2, fr2⟩⟩ rfl (Nat.le_refl _)
  · refine ex_if_eq (pc := 11) dX4_readManner_11 (tgt := 23) (by decide) (fun c11 => ?_) (fun c11 => by exfalso; omega)
    refine ex_iconst (pc := 23) dX4_readManner_23 (by decide) ?_
    exact ex_zret (pc := 24) dX4_readManner_24 ⟨Or.inl rfl, Or.inr ⟨rfl, by unfold mannS numS; rw [if_neg (by rw [hk]; exact fun q => c2 q.2)], _, s1, hr1, fun q e1 _ _ => f1 q e1⟩⟩ rfl (Nat.le_refl _)
abbrev mX4_readNote : xC := mkC yX4_readNote cX4_readNote 4 (some .boolean) 3 300 0 0
set_option maxHeartbeats 4000000 in
set_option maxRecDepth 100000 in
theorem tX4_readNote {n : Nat} {w : xW} {s l r a at_ : Nat} {tx cs : List Int} {mo : Int} (hs : ScAt w s l tx at_) (hp : PcAt w r a cs mo) (hla : l ≠ a) (hat : at_ ≤ tx.length) : Ctr mX4_readNote [xr s, xr r] n w (pZ (fun v w2 => (v = 1 ∧ ∃ (c : Int) (j : Nat), noteS tx at_ = some (c, j) ∧ j ≤ tx.length ∧ cs.length < 14 ∧ numL c cs = -4 ∧ ScAt w2 s l tx j ∧ PcAt w2 r a (insL c cs) mo ∧ Fr3 w w2 s r a) ∨ (v = 0 ∧ (∀ c j, noteS tx at_ = some (c, j) → ¬ (cs.length < 14 ∧ numL c cs = -4)) ∧ ∃ b : Nat, ScAt w2 s l tx b ∧ PcAt w2 r a cs mo ∧ Fr3 w w2 s r a))) := by
  refine Ctr.of ykX4_readNote rfl (Nat.le_of_ble_eq_true rfl) okZ (fun hin hW => ?_)
  show Ex _ _ 0 0 n w 0 [some (xr s), some (xr r), none, none] []
  obtain ⟨nrs, nas, nrl⟩ := hp.neS hs
  have nls := hs.ne
  have nar := hp.ne
  have h_s := hs.s
  have h_r := hp.r
  refine ex_aload_n (pc := 0) dX4_readNote_0 rfl ?_
  refine ex_callVI (as := []) (pc := 1) dX4_readNote_1 (lX4_readNumber hs hat) lk_X4_44 ykX4_readNumber vkX4_readNumber h_s rfl rfl rfl (Nat.le_of_ble_eq_true rfl) ⟨by decide, by decide⟩ ⟨Nat.le_refl _, Nat.le_refl _⟩ (fun v1 w1 r1 p1 => ?_)
  obtain ⟨ev, s1, b1, f1⟩ := p1
  have hr1 : PcAt w1 r a cs mo := hp.fr (f1 r nrs) (f1 a nas)
  have h_s1 := s1.s
  generalize hk : at_ + (rdN tx at_).2 = a1 at s1 b1 h_s1
  have hcase := rdN_cases tx at_
  refine ex_istore_n (L2 := [_, _, _, _]) (pc := 4) dX4_readNote_4 rfl (Nat.le_of_ble_eq_true rfl) rfl ?_
  refine ex_aload_n (pc := 5) dX4_readNote_5 rfl ?_
  refine ex_bipush (pc := 6) dX4_readNote_6 (by decide) ?_
  refine ex_callVZ (as := [_]) (pc := 8) dX4_readNote_8 (lX4_skip s1 b1 (by omega)) lk_X4_34 ykX4_skip vkX4_skip h_s1 rfl rfl rfl (Nat.le_of_ble_eq_true rfl) ⟨by decide, by decide⟩ ⟨Nat.le_refl _, Nat.le_refl _⟩ (fun v8 w2 r8 p8 => ?_)
  rcases p8 with ⟨rfl, b2, c2, s2, f2⟩ | ⟨rfl, c2, rfl⟩
  · refine ex_if_ne (pc := 11) dX4_readNote_11 (tgt := 16) (by decide) (fun c11 => ?_) (fun c11 => by exfalso; omega)
    have hr2 : PcAt w2 r a cs mo := hr1.fr (f2 r nrs) (f2 a nas)
    have fr2 : Fr3 w w2 s r a := fun q e1 _ _ => (f2 q e1).trans (f1 q e1)
    refine ex_aload_n (pc := 16) dX4_readNote_16 rfl ?_
    refine ex_callVI (as := []) (pc := 17) dX4_readNote_17 (lX4_readNumber s2 (by omega)) lk_X4_44 ykX4_readNumber vkX4_readNumber s2.s rfl rfl rfl (Nat.le_of_ble_eq_true rfl) ⟨by decide, by decide⟩ ⟨Nat.le_refl _, Nat.le_refl _⟩ (fun v17 w3 r17 p17 => ?_)
    obtain ⟨ev2, s3, b3, f3⟩ := p17
    have hr3 : PcAt w3 r a cs mo := hr2.fr (f3 r nrs) (f3 a nas)
    have fr3 : Fr3 w w3 s r a := fun q e1 e2 e3 => (f3 q e1).trans (fr2 q e1 e2 e3)
    have h_s3 := s3.s
    generalize hk2 : a1 + 1 + (rdN tx (a1 + 1)).2 = a2 at s3 b3 h_s3
    have hcase2 := rdN_cases tx (a1 + 1)
    refine ex_istore_n (L2 := [_, _, _, _]) (pc := 20) dX4_readNote_20 rfl (Nat.le_of_ble_eq_true rfl) rfl ?_
    refine ex_aload_n (pc := 21) dX4_readNote_21 rfl ?_
    refine ex_bipush (pc := 22) dX4_readNote_22 (by decide) ?_
    refine ex_callVZ (as := [_]) (pc := 24) dX4_readNote_24 (lX4_skip s3 b3 (by omega)) lk_X4_34 ykX4_skip vkX4_skip h_s3 rfl rfl rfl (Nat.le_of_ble_eq_true rfl) ⟨by decide, by decide⟩ ⟨Nat.le_refl _, Nat.le_refl _⟩ (fun v24 w4 r24 p24 => ?_)
    rcases p24 with ⟨rfl, b4, c4, s4, f4⟩ | ⟨rfl, c4, rfl⟩
    · have hr4 : PcAt w4 r a cs mo := hr3.fr (f4 r nrs) (f4 a nas)
      have fr4 : Fr3 w w4 s r a := fun q e1 e2 e3 => (f4 q e1).trans (fr3 q e1 e2 e3)
      refine ex_if_eq (pc := 27) dX4_readNote_27 (tgt := 50) (by decide) (fun c27 => by exfalso; omega) (fun c27 => ?_)
      refine ex_iload_n (pc := 30) dX4_readNote_30 rfl ?_
      refine ex_iload_n (pc := 31) dX4_readNote_31 rfl ?_
      refine ex_callSZ (as := [_, _]) (pc := 32) dX4_readNote_32 tX6_isWithin lk_X4_48 ykX6_isWithin zkX6_isWithin rfl rfl (Nat.le_of_ble_eq_true rfl) ⟨by decide, by decide⟩ ⟨Nat.le_refl _, Nat.le_refl _⟩ (fun v32 w5 r32 p32 => ?_)
      obtain ⟨rfl, p32⟩ := p32
      refine ex_if_eq (pc := 35) dX4_readNote_35 (tgt := 50) (by decide) (fun c35 => ?_) (fun c35 => ?_)
      · refine ex_iconst (pc := 50) dX4_readNote_50 (by decide) ?_
        refine ex_zret (pc := 51) dX4_readNote_51 ⟨Or.inl rfl, Or.inr ⟨rfl, fun c j hn => ?_, _, s4, hr4, fr4⟩⟩ rfl (Nat.le_refl _)
        exfalso
        unfold noteS at hn
        by_cases z1 : 0 < (rdN tx at_).2
        · have hnum : numS tx at_ 44 = some (v1, a1 + 1) := by unfold numS; rw [if_pos ⟨z1, by rw [hk]; exact c2⟩, ev, hk]
          rw [hnum] at hn
          simp only at hn
          by_cases z2 : 19 < v1
          · rw [if_pos z2] at hn; cases hn
          · rw [if_neg z2] at hn
            by_cases z3 : 0 < (rdN tx (a1 + 1)).2
            · have hnum2 : numS tx (a1 + 1) 59 = some (v17, a2 + 1) := by unfold numS; rw [if_pos ⟨z3, by rw [hk2]; exact c4⟩, ev2, hk2]
              rw [hnum2] at hn
              simp only at hn
              by_cases z4 : 11 < v17
              · rw [if_pos z4] at hn; cases hn
              · omega
            · have hnum2 : numS tx (a1 + 1) 59 = none := by unfold numS; rw [if_neg (fun q => z3 q.1)]
              rw [hnum2] at hn; cases hn
        · have hnum : numS tx at_ 44 = none := by unfold numS; rw [if_neg (fun q => z1 q.1)]
          rw [hnum] at hn; cases hn
      · have hw := p32.mp (by omega)
        have hnum : numS tx at_ 44 = some (v1, a1 + 1) := by unfold numS; rw [if_pos ⟨by omega, by rw [hk]; exact c2⟩, ev, hk]
        have hnum2 : numS tx (a1 + 1) 59 = some (v17, a2 + 1) := by unfold numS; rw [if_pos ⟨by omega, by rw [hk2]; exact c4⟩, ev2, hk2]
        have hnote : noteS tx at_ = some (v1 * 12 + v17, a2 + 1) := by unfold noteS; rw [hnum]; simp only; rw [if_neg (by omega), hnum2]; simp only; rw [if_neg (by omega)]
        refine ex_aload_n (pc := 38) dX4_readNote_38 rfl ?_
        refine ex_iload_n (pc := 39) dX4_readNote_39 rfl ?_
        refine ex_iload_n (pc := 40) dX4_readNote_40 rfl ?_
        refine ex_callSI (as := [_, _]) (pc := 41) dX4_readNote_41 (tX6_codeOf (by omega)) lk_X4_52 ykX6_codeOf zkX6_codeOf rfl rfl (Nat.le_of_ble_eq_true rfl) ⟨by decide, by decide⟩ ⟨Nat.le_refl _, Nat.le_refl _⟩ (fun v41 w6 r41 p41 => ?_)
        obtain ⟨rfl, rfl⟩ := p41
        refine ex_callVI (as := [_]) (pc := 44) dX4_readNote_44 (lX2_numberOf hr4) lk_X4_56 ykX2_numberOf vkX2_numberOf hr4.r rfl rfl rfl (Nat.le_of_ble_eq_true rfl) ⟨by decide, by decide⟩ ⟨Nat.le_refl _, Nat.le_refl _⟩ (fun v44 w7 r44 p44 => ?_)
        obtain ⟨rfl, p44⟩ := p44
        refine ex_if_lt (pc := 47) dX4_readNote_47 (tgt := 52) (by decide) (fun c47 => ?_) (fun c47 => ?_)
        · have hnl : numL (v1 * 12 + v17) cs = -4 := numL_lt (by rw [← p44]; exact c47)
          refine ex_aload_n (pc := 52) dX4_readNote_52 rfl ?_
          refine ex_iload_n (pc := 53) dX4_readNote_53 rfl ?_
          refine ex_iload_n (pc := 54) dX4_readNote_54 rfl ?_
          refine ex_callSI (as := [_, _]) (pc := 55) dX4_readNote_55 (tX6_codeOf (by omega)) lk_X4_52 ykX6_codeOf zkX6_codeOf rfl rfl (Nat.le_of_ble_eq_true rfl) ⟨by decide, by decide⟩ ⟨Nat.le_refl _, Nat.le_refl _⟩ (fun v55 w8 r55 p55 => ?_)
          obtain ⟨rfl, rfl⟩ := p55
          by_cases hfull : cs.length < 14
          · refine ex_callVI (as := [_]) (pc := 58) dX4_readNote_58 (lX2_insert hr4 hfull) lk_X4_60 ykX2_insert vkX2_insert hr4.r rfl rfl rfl (Nat.le_of_ble_eq_true rfl) ⟨by decide, by decide⟩ ⟨Nat.le_refl _, Nat.le_refl _⟩ (fun v58 w9 r58 p58 => ?_)
            obtain ⟨rfl, p9, f9⟩ := p58
            refine ex_if_lt (pc := 61) dX4_readNote_61 (tgt := 68) (by decide) (fun c61 => by exfalso; omega) (fun c61 => ?_)
            refine ex_iconst (pc := 64) dX4_readNote_64 (by decide) ?_
            refine ex_goto (pc := 65) dX4_readNote_65 (tgt := 69) (by decide) ?_
            exact ex_zret (pc := 69) dX4_readNote_69 ⟨Or.inr rfl, Or.inl ⟨rfl, _, _, hnote, by omega, hfull, hnl, s4.fr (f9 s nrs.symm nas.symm) (f9 l nrl.symm hla), p9, fun q e1 e2 e3 => (f9 q e2 e3).trans (fr4 q e1 e2 e3)⟩⟩ rfl (Nat.le_refl _)
          · have h14 : cs.length = 14 := by have := hr4.len; omega
            refine ex_callVI (as := [_]) (pc := 58) dX4_readNote_58 (lX2_insertFull hr4 h14) lk_X4_60 ykX2_insert vkX2_insert hr4.r rfl rfl rfl (Nat.le_of_ble_eq_true rfl) ⟨by decide, by decide⟩ ⟨Nat.le_refl _, Nat.le_refl _⟩ (fun v58 w9 r58 p58 => ?_)
            obtain ⟨rfl, rfl⟩ := p58
            refine ex_if_lt (pc := 61) dX4_readNote_61 (tgt := 68) (by decide) (fun c61 => ?_) (fun c61 => by exfalso; omega)
            refine ex_iconst (pc := 68) dX4_readNote_68 (by decide) ?_
            exact ex_zret (pc := 69) dX4_readNote_69 ⟨Or.inl rfl, Or.inr ⟨rfl, fun c j hn => by omega, _, s4, hr4, fr4⟩⟩ rfl (Nat.le_refl _)
        · refine ex_iconst (pc := 50) dX4_readNote_50 (by decide) ?_
          refine ex_zret (pc := 51) dX4_readNote_51 ⟨Or.inl rfl, Or.inr ⟨rfl, fun c j hn => ?_, _, s4, hr4, fr4⟩⟩ rfl (Nat.le_refl _)
          rw [hnote] at hn
          cases hn
          omega
    · refine ex_if_eq (pc := 27) dX4_readNote_27 (tgt := 50) (by decide) (fun c27 => ?_) (fun c27 => by exfalso; omega)
      refine ex_iconst (pc := 50) dX4_readNote_50 (by decide) ?_
      refine ex_zret (pc := 51) dX4_readNote_51 ⟨Or.inl rfl, Or.inr ⟨rfl, fun c j hn => ?_, _, s3, hr3, fr3⟩⟩ rfl (Nat.le_refl _)
      exfalso
      have hnum2 : numS tx (a1 + 1) 59 = none := by unfold numS; rw [if_neg (by rw [hk2]; exact fun q => c4 q.2)]
      unfold noteS at hn
      by_cases z1 : 0 < (rdN tx at_).2
      · have hnum : numS tx at_ 44 = some (v1, a1 + 1) := by unfold numS; rw [if_pos ⟨z1, by rw [hk]; exact c2⟩, ev, hk]
        rw [hnum] at hn
        simp only at hn
        rw [hnum2] at hn
        split at hn <;> cases hn
      · have hnum : numS tx at_ 44 = none := by unfold numS; rw [if_neg (fun q => z1 q.1)]
        rw [hnum] at hn; cases hn
  · refine ex_if_ne (pc := 11) dX4_readNote_11 (tgt := 16) (by decide) (fun c11 => by exfalso; omega) (fun c11 => ?_)
    refine ex_iconst (pc := 14) dX4_readNote_14 (by decide) ?_
    refine ex_zret (pc := 15) dX4_readNote_15 ⟨Or.inl rfl, Or.inr ⟨rfl, fun c j hn => ?_, _, s1, hr1, fun q e1 _ _ => f1 q e1⟩⟩ rfl (Nat.le_refl _)
    exfalso
    have hnum : numS tx at_ 44 = none := by unfold numS; rw [if_neg (by rw [hk]; exact fun q => c2 q.2)]
    unfold noteS at hn
    rw [hnum] at hn; cases hn
theorem numS_spec {tx : List Int} {i : Nat} {sg v : Int} {j : Nat} (h : numS tx i sg = some (v, j)) (hs : sg ≠ -1) : i < j ∧ j ≤ tx.length ∧ 0 ≤ v ∧ v ≤ 99 := by
  unfold numS at h
  split at h
  · rename_i q
    cases h
    have h1 : i + (rdN tx i).2 < tx.length := ch_lt (by rw [q.2]; exact hs)
    have h2 := rdN_cases tx i
    omega
  · cases h
theorem noteS_spec {tx : List Int} {i : Nat} {c : Int} {j : Nat} (h : noteS tx i = some (c, j)) : i < j ∧ j ≤ tx.length ∧ 0 ≤ c ∧ c < 240 := by
  unfold noteS at h
  split at h
  · cases h
  · rename_i tm j1 e1
    have h1 := numS_spec e1 (by decide)
    split at h
    · cases h
    · split at h
      · cases h
      · rename_i pt j2 e2
        have h2 := numS_spec e2 (by decide)
        split at h
        · cases h
        · cases h
          omega
theorem mannS_spec {tx : List Int} {i : Nat} {m : Int} {j : Nat} (h : mannS tx i = some (m, j)) : i < j ∧ j ≤ tx.length ∧ 0 ≤ m ∧ m ≤ 2 := by
  unfold mannS at h
  split at h
  · cases h
  · rename_i m1 j1 e1
    have h1 := numS_spec e1 (by decide)
    split at h
    · cases h
    · cases h
      omega
/-- one item of the text: what is read then, and where it goes on -/
def itemS (tx : List Int) (i : Nat) (cs : List Int) (mo : Int) : Option (List Int × Int × Nat) :=
  if ch tx i = 110 then (match noteS tx (i + 1) with
    | none => none
    | some (c, j) => if cs.length < 14 ∧ numL c cs = -4 then some (insL c cs, mo, j) else none)
  else if ch tx i = 109 then (match mannS tx (i + 1) with
    | none => none
    | some (m, j) => some (cs, m, j))
  else none
def rdS (tx : List Int) : Nat → Nat → List Int → Int → Int × List Int × Int
  | 0, _, cs, m => (-4, cs, m)
  | d + 1, i, cs, m => if i < tx.length then (match itemS tx i cs m with
    | none => ((i : Int), cs, m)
    | some (cs2, m2, j) => rdS tx d j cs2 m2) else (-4, cs, m)
theorem Cod_ins {c : Int} {cs : List Int} (h : Cod cs) (hc : 0 ≤ c ∧ c < 240) : Cod (insL c cs) := by
  intro i hi
  rw [← ins_L (f := fun i => cs.getD i 0) (fun _ _ => rfl) i hi]
  rw [insL_len] at hi
  unfold insF
  split
  · rename_i q
    have := posL_le c cs
    exact h i (by omega)
  · split
    · exact hc
    · rw [if_pos (by omega)]
      exact h (i - 1) (by omega)
theorem itemS_spec {tx : List Int} {i : Nat} {cs cs2 : List Int} {mo m2 : Int} {j : Nat} (h : itemS tx i cs mo = some (cs2, m2, j)) (h1 : Cod cs) (h2 : 0 ≤ mo ∧ mo ≤ 2) (h3 : cs.length ≤ 14) : i < j ∧ j ≤ tx.length ∧ Cod cs2 ∧ (0 ≤ m2 ∧ m2 ≤ 2) ∧ cs2.length ≤ 14 := by
  unfold itemS at h
  split at h
  · split at h
    · cases h
    · rename_i c j1 e1
      have q := noteS_spec e1
      split at h
      · rename_i q2
        cases h
        exact ⟨by omega, by omega, Cod_ins h1 q.2.2, h2, by rw [insL_len]; omega⟩
      · cases h
  · split at h
    · split at h
      · cases h
      · rename_i m j1 e1
        have q := mannS_spec e1
        cases h
        exact ⟨by omega, by omega, h1, q.2.2, h3⟩
    · cases h
abbrev mX4_readItem : xC := mkC yX4_readItem cX4_readItem 2 (some .boolean) 4 400 0 0
set_option maxHeartbeats 4000000 in
set_option maxRecDepth 100000 in
theorem tX4_readItem {n : Nat} {w : xW} {s l r a at_ : Nat} {tx cs : List Int} {mo : Int} (hs : ScAt w s l tx at_) (hp : PcAt w r a cs mo) (hla : l ≠ a) (hat : at_ ≤ tx.length) : Ctr mX4_readItem [xr s, xr r] n w (pZ (fun v w2 => (v = 1 ∧ ∃ (cs2 : List Int) (m2 : Int) (j : Nat), itemS tx at_ cs mo = some (cs2, m2, j) ∧ j ≤ tx.length ∧ ScAt w2 s l tx j ∧ PcAt w2 r a cs2 m2 ∧ Fr3 w w2 s r a) ∨ (v = 0 ∧ (itemS tx at_ cs mo = none) ∧ ∃ b : Nat, ScAt w2 s l tx b ∧ PcAt w2 r a cs mo ∧ Fr3 w w2 s r a))) := by
  refine Ctr.of ykX4_readItem rfl (Nat.le_of_ble_eq_true rfl) okZ (fun hin hW => ?_)
  show Ex _ _ 0 0 n w 0 [some (xr s), some (xr r)] []
  obtain ⟨nrs, nas, nrl⟩ := hp.neS hs
  have nls := hs.ne
  have nar := hp.ne
  have h_s := hs.s
  have h_r := hp.r
  refine ex_aload_n (pc := 0) dX4_readItem_0 rfl ?_
  refine ex_bipush (pc := 1) dX4_readItem_1 (by decide) ?_
  refine ex_callVZ (as := [_]) (pc := 3) dX4_readItem_3 (lX4_skip hs hat (by omega)) lk_X4_34 ykX4_skip vkX4_skip h_s rfl rfl rfl (Nat.le_of_ble_eq_true rfl) ⟨by decide, by decide⟩ ⟨Nat.le_refl _, Nat.le_refl _⟩ (fun v3 w1 r3 p3 => ?_)
  rcases p3 with ⟨rfl, b1, c1, s1, f1⟩ | ⟨rfl, c1, rfl⟩
  · refine ex_if_eq (pc := 6) dX4_readItem_6 (tgt := 15) (by decide) (fun c6 => by exfalso; omega) (fun c6 => ?_)
    have hr1 : PcAt w1 r a cs mo := hp.fr (f1 r nrs) (f1 a nas)
    refine ex_aload_n (pc := 9) dX4_readItem_9 rfl ?_
    refine ex_aload_n (pc := 10) dX4_readItem_10 rfl ?_
    refine ex_callVZ (as := [_]) (pc := 11) dX4_readItem_11 (tX4_readNote s1 hr1 hla (by omega)) lk_X4_38 ykX4_readNote vkX4_readNote s1.s rfl rfl rfl (Nat.le_of_ble_eq_true rfl) ⟨by decide, by decide⟩ ⟨Nat.le_refl _, Nat.le_refl _⟩ (fun v11 w2 r11 p11 => ?_)
    refine ex_zret (pc := 14) dX4_readItem_14 ⟨r11, ?_⟩ rfl (Nat.le_refl _)
    have hf : ∀ w3, Fr3 w1 w3 s r a → Fr3 w w3 s r a := fun w3 h q e1 e2 e3 => (h q e1 e2 e3).trans (f1 q e1)
    rcases p11 with ⟨e, c, j, q1, q2, q3, q4, q5, q6, q7⟩ | ⟨e, q1, b, q2, q3, q4⟩
    · exact Or.inl ⟨e, _, _, j, by unfold itemS; rw [if_pos c1, q1]; exact if_pos ⟨q3, q4⟩, q2, q5, q6, hf _ q7⟩
    · refine Or.inr ⟨e, ?_, b, q2, q3, hf _ q4⟩
      unfold itemS
      rw [if_pos c1]
      cases e2 : noteS tx (at_ + 1) with
      | none => rfl
      | some x => exact if_neg (q1 x.1 x.2 e2)
  · refine ex_if_eq (pc := 6) dX4_readItem_6 (tgt := 15) (by decide) (fun c6 => ?_) (fun c6 => by exfalso; omega)
    refine ex_aload_n (pc := 15) dX4_readItem_15 rfl ?_
    refine ex_bipush (pc := 16) dX4_readItem_16 (by decide) ?_
    refine ex_callVZ (as := [_]) (pc := 18) dX4_readItem_18 (lX4_skip hs hat (by omega)) lk_X4_34 ykX4_skip vkX4_skip h_s rfl rfl rfl (Nat.le_of_ble_eq_true rfl) ⟨by decide, by decide⟩ ⟨Nat.le_refl _, Nat.le_refl _⟩ (fun v18 w2 r18 p18 => ?_)
    rcases p18 with ⟨rfl, b2, c2, s2, f2⟩ | ⟨rfl, c2, rfl⟩
    · refine ex_if_eq (pc := 21) dX4_readItem_21 (tgt := 36) (by decide) (fun c21 => by exfalso; omega) (fun c21 => ?_)
      have hr2 : PcAt w2 r a cs mo := hp.fr (f2 r nrs) (f2 a nas)
      refine ex_aload_n (pc := 24) dX4_readItem_24 rfl ?_
      refine ex_aload_n (pc := 25) dX4_readItem_25 rfl ?_
      refine ex_callVZ (as := [_]) (pc := 26) dX4_readItem_26 (tX4_readManner s2 hr2 hla (by omega)) lk_X4_41 ykX4_readManner vkX4_readManner s2.s rfl rfl rfl (Nat.le_of_ble_eq_true rfl) ⟨by decide, by decide⟩ ⟨Nat.le_refl _, Nat.le_refl _⟩ (fun v26 w3 r26 p26 => ?_)
      rcases p26 with ⟨e, m, j, q1, q2, q3, q4, q5⟩ | ⟨e, q1, b, q2, q3, q4⟩
      · refine ex_if_eq (pc := 29) dX4_readItem_29 (tgt := 36) (by decide) (fun c29 => by exfalso; omega) (fun c29 => ?_)
        refine ex_iconst (pc := 32) dX4_readItem_32 (by decide) ?_
        refine ex_goto (pc := 33) dX4_readItem_33 (tgt := 37) (by decide) ?_
        refine ex_zret (pc := 37) dX4_readItem_37 ⟨Or.inr rfl, Or.inl ⟨rfl, cs, m, j, ?_, q2, q3, q4, fun q e1 e2 e3 => (q5 q e1 e2 e3).trans (f2 q e1)⟩⟩ rfl (Nat.le_refl _)
        unfold itemS
        rw [if_neg c1, if_pos c2, q1]
      · refine ex_if_eq (pc := 29) dX4_readItem_29 (tgt := 36) (by decide) (fun c29 => ?_) (fun c29 => by exfalso; omega)
        refine ex_iconst (pc := 36) dX4_readItem_36 (by decide) ?_
        refine ex_zret (pc := 37) dX4_readItem_37 ⟨Or.inl rfl, Or.inr ⟨rfl, ?_, b, q2, q3, fun q e1 e2 e3 => (q4 q e1 e2 e3).trans (f2 q e1)⟩⟩ rfl (Nat.le_refl _)
        unfold itemS
        rw [if_neg c1, if_pos c2, q1]
    · refine ex_if_eq (pc := 21) dX4_readItem_21 (tgt := 36) (by decide) (fun c21 => ?_) (fun c21 => by exfalso; omega)
      refine ex_iconst (pc := 36) dX4_readItem_36 (by decide) ?_
      refine ex_zret (pc := 37) dX4_readItem_37 ⟨Or.inl rfl, Or.inr ⟨rfl, ?_, _, hs, hp, fun q _ _ _ => rfl⟩⟩ rfl (Nat.le_refl _)
      unfold itemS
      rw [if_neg c1, if_neg c2]
abbrev mX4_readInto : xC := mkC yX4_readInto cX4_readInto 4 (some .int) 5 500 0 0
set_option maxHeartbeats 4000000 in
set_option maxRecDepth 100000 in
theorem tX4_readInto {n : Nat} {w0 : xW} {s l r a at_ : Nat} {tx : List Int} {u1 u2 : Int} {f : Nat → Int} (hs : ScAt w0 s l tx at_) (h_r : w0 r = xO 2 [xr a, xi u1, xi u2]) (h_a : w0 a = xA 14 f) (hla : l ≠ a) {RS : Int × List Int × Int} (hRS : rdS tx 200 0 [] 0 = RS) : Ctr mX4_readInto [xr s, xr r] n w0 (pI (fun v w2 => v = RS.1 ∧ PcAt w2 r a RS.2.1 RS.2.2 ∧ Cod RS.2.1 ∧ (0 ≤ RS.2.2 ∧ RS.2.2 ≤ 2) ∧ (∃ b : Nat, ScAt w2 s l tx b) ∧ Fr3 w0 w2 s r a)) := by
  refine Ctr.of ykX4_readInto rfl (Nat.le_of_ble_eq_true rfl) okI (fun hin hW => ?_)
  have loop : ∀ (d k : Nat), k ≤ 200 → 200 ≤ k + d → ∀ (w : xW) (i : Nat) (cs : List Int) (mo : Int) (x3 : Option xV), i ≤ tx.length → k ≤ i → ScAt w s l tx i → PcAt w r a cs mo → Cod cs → (0 ≤ mo ∧ mo ≤ 2) → Fr3 w0 w s r a → rdS tx d i cs mo = RS → Ex mX4_readInto (pI (fun v w2 => v = RS.1 ∧ PcAt w2 r a RS.2.1 RS.2.2 ∧ Cod RS.2.1 ∧ (0 ≤ RS.2.2 ∧ RS.2.2 ≤ 2) ∧ (∃ b : Nat, ScAt w2 s l tx b) ∧ Fr3 w0 w2 s r a)) 0 0 n w 17 [some (xr s), some (xr r), some (xi k), x3] [] := by
    intro d
    induction d with
    | zero =>
      intro k h1 h2 w i cs mo x3 hi hki hs hp hc hm hf he
      refine ex_iload_n (pc := 17) dX4_readInto_17 rfl ?_
      refine ex_sipush (pc := 18) dX4_readInto_18 (by decide) ?_
      refine ex_icmp_ge (pc := 21) dX4_readInto_21 (tgt := 56) (by decide) (fun c21 => ?_) (fun c21 => by exfalso; omega)
      refine ex_bipush (pc := 56) dX4_readInto_56 (by decide) ?_
      rw [← he]
      exact ex_iret (pc := 58) dX4_readInto_58 ⟨rfl, hp, hc, hm, ⟨i, hs⟩, hf⟩ rfl (Nat.le_refl _)
    | succ d ih =>
      intro k h1 h2 w i cs mo x3 hi hki hs hp hc hm hf he
      have hlen : tx.length ≤ 200 := by obtain ⟨t, -, -, -, q⟩ := hs; exact q
      obtain ⟨nrs, nas, nrl⟩ := hp.neS hs
      have h_s := hs.s
      refine ex_iload_n (pc := 17) dX4_readInto_17 rfl ?_
      refine ex_sipush (pc := 18) dX4_readInto_18 (by decide) ?_
      refine ex_icmp_ge (pc := 21) dX4_readInto_21 (tgt := 56) (by decide) (fun c21 => ?_) (fun c21 => ?_)
      · have hii : ¬ i < tx.length := by omega
        unfold rdS at he
        rw [if_neg hii] at he
        refine ex_bipush (pc := 56) dX4_readInto_56 (by decide) ?_
        rw [← he]
        exact ex_iret (pc := 58) dX4_readInto_58 ⟨rfl, hp, hc, hm, ⟨i, hs⟩, hf⟩ rfl (Nat.le_refl _)
      · refine ex_aload_n (pc := 24) dX4_readInto_24 rfl ?_
        refine ex_getfield (pc := 25) dX4_readInto_25 fk_X4_27 h_s (by rfl) ?_
        refine ex_aload_n (pc := 28) dX4_readInto_28 rfl ?_
        refine ex_getfield (pc := 29) dX4_readInto_29 fk_X4_15 h_s (by rfl) ?_
        refine ex_icmp_ge (pc := 32) dX4_readInto_32 (tgt := 56) (by decide) (fun c32 => ?_) (fun c32 => ?_)
        · have hii : ¬ i < tx.length := by omega
          unfold rdS at he
          rw [if_neg hii] at he
          refine ex_bipush (pc := 56) dX4_readInto_56 (by decide) ?_
          rw [← he]
          exact ex_iret (pc := 58) dX4_readInto_58 ⟨rfl, hp, hc, hm, ⟨i, hs⟩, hf⟩ rfl (Nat.le_refl _)
        · have hii : i < tx.length := by omega
          unfold rdS at he
          rw [if_pos hii] at he
          refine ex_aload_n (pc := 35) dX4_readInto_35 rfl ?_
          refine ex_getfield (pc := 36) dX4_readInto_36 fk_X4_27 h_s (by rfl) ?_
          refine ex_istore_n (L2 := [_, _, _, _]) (pc := 39) dX4_readInto_39 rfl (Nat.le_of_ble_eq_true rfl) rfl ?_
          refine ex_aload_n (pc := 40) dX4_readInto_40 rfl ?_
          refine ex_aload_n (pc := 41) dX4_readInto_41 rfl ?_
          refine ex_callVZ (as := [_]) (pc := 42) dX4_readInto_42 (tX4_readItem hs hp hla hi) lk_X4_30 ykX4_readItem vkX4_readItem h_s rfl rfl rfl (Nat.le_of_ble_eq_true rfl) ⟨by decide, by decide⟩ ⟨Nat.le_refl _, Nat.le_refl _⟩ (fun v42 w2 r42 p42 => ?_)
          rcases p42 with ⟨e, cs2, m2, j, q1, q2, q3, q4, q5⟩ | ⟨e, q1, b, q2, q3, q4⟩
          · refine ex_if_ne (pc := 45) dX4_readInto_45 (tgt := 50) (by decide) (fun c45 => ?_) (fun c45 => by exfalso; omega)
            rw [q1] at he
            have hsp := itemS_spec q1 hc hm hp.len
            refine ex_iinc (L2 := [_, _, _, _]) (pc := 50) dX4_readInto_50 rfl rfl (Nat.le_of_ble_eq_true rfl) (by unfold inI; omega) rfl ?_
            refine ex_goto (pc := 53) dX4_readInto_53 (tgt := 17) (by decide) ?_
            exact ih (k + 1) (by omega) (by omega) w2 j cs2 m2 _ q2 (by omega) q3 q4 hsp.2.2.1 hsp.2.2.2.1 (fun q e1 e2 e3 => (q5 q e1 e2 e3).trans (hf q e1 e2 e3)) he
          · refine ex_if_ne (pc := 45) dX4_readInto_45 (tgt := 50) (by decide) (fun c45 => by exfalso; omega) (fun c45 => ?_)
            rw [q1] at he
            refine ex_iload_n (pc := 48) dX4_readInto_48 rfl ?_
            rw [← he]
            refine ex_iret (pc := 49) dX4_readInto_49 ⟨rfl, q3, hc, hm, ?_, fun q e1 e2 e3 => (q4 q e1 e2 e3).trans (hf q e1 e2 e3)⟩ rfl (Nat.le_refl _)
            exact ⟨b, q2⟩
  show Ex _ _ 0 0 n w0 0 [some (xr s), some (xr r), none, none] []
  have hs0 := hs
  obtain ⟨t, h_s, h_l, ht, hlen⟩ := hs
  have nrs : r ≠ s := by rintro rfl; rw [h_r] at h_s; cases h_s
  have nar : a ≠ r := by rintro rfl; rw [h_a] at h_r; cases h_r
  have nas : a ≠ s := by rintro rfl; rw [h_a] at h_s; cases h_s
  have nls : l ≠ s := by rintro rfl; rw [h_l] at h_s; cases h_s
  have nlr : l ≠ r := by rintro rfl; rw [h_l] at h_r; cases h_r
  have nsr : s ≠ r := fun q => nrs q.symm
  have nra : r ≠ a := fun q => nar q.symm
  have nrl : r ≠ l := fun q => nlr q.symm
  refine ex_aload_n (pc := 0) dX4_readInto_0 rfl ?_
  refine ex_iconst (pc := 1) dX4_readInto_1 (by decide) ?_
  refine ex_putA (pc := 2) dX4_readInto_2 fk_X4_19 (ty := tyX2 1) (fun _ _ _ h9 => by cases h9; exact ⟨tyX2_ok 1 (by decide), rfl⟩) h_r (Nat.le_of_ble_eq_true rfl) (fun _ => rfl) (fun _ => rfl) ?_
  refine ex_up (fun w1 e_w1 => ?_)
  have h1_s := ((congrFun e_w1 s).trans (up_n (by first | assumption | decide | omega))).trans h_s
  have h1_l := ((congrFun e_w1 l).trans (up_n (by first | assumption | decide | omega))).trans h_l
  have h1_r := (congrFun e_w1 r).trans up_s
  have h1_a := ((congrFun e_w1 a).trans (up_n (by first | assumption | decide | omega))).trans h_a
  refine ex_aload_n (pc := 5) dX4_readInto_5 rfl ?_
  refine ex_iconst (pc := 6) dX4_readInto_6 (by decide) ?_
  refine ex_putA (pc := 7) dX4_readInto_7 fk_X4_24 (ty := tyX2 2) (fun _ _ _ h9 => by cases h9; exact ⟨tyX2_ok 2 (by decide), rfl⟩) h1_r (Nat.le_of_ble_eq_true rfl) (fun _ => rfl) (fun _ => rfl) ?_
  refine ex_up (fun w2 e_w2 => ?_)
  have h2_s := ((congrFun e_w2 s).trans (up_n (by first | assumption | decide | omega))).trans h1_s
  have h2_l := ((congrFun e_w2 l).trans (up_n (by first | assumption | decide | omega))).trans h1_l
  have h2_r := (congrFun e_w2 r).trans up_s
  have h2_a := ((congrFun e_w2 a).trans (up_n (by first | assumption | decide | omega))).trans h1_a
  refine ex_aload_n (pc := 10) dX4_readInto_10 rfl ?_
  refine ex_iconst (pc := 11) dX4_readInto_11 (by decide) ?_
  refine ex_putA (pc := 12) dX4_readInto_12 fk_X4_27 (ty := tyX4 2) (fun _ _ _ h9 => by cases h9; exact ⟨tyX4_ok 2 (by decide), rfl⟩) h2_s (Nat.le_of_ble_eq_true rfl) (fun _ => rfl) (fun _ => rfl) ?_
  refine ex_up (fun w3 e_w3 => ?_)
  have h3_s := (congrFun e_w3 s).trans up_s
  have h3_l := ((congrFun e_w3 l).trans (up_n (by first | assumption | decide | omega))).trans h2_l
  have h3_r := ((congrFun e_w3 r).trans (up_n (by first | assumption | decide | omega))).trans h2_r
  have h3_a := ((congrFun e_w3 a).trans (up_n (by first | assumption | decide | omega))).trans h2_a
  refine ex_iconst (pc := 15) dX4_readInto_15 (by decide) ?_
  refine ex_istore_n (L2 := [_, _, _, _]) (pc := 16) dX4_readInto_16 rfl (Nat.le_of_ble_eq_true rfl) rfl ?_
  have hP : PcAt w3 r a [] 0 := ⟨f, h3_r, h3_a, (fun i hi => absurd hi (Nat.not_lt_zero _)), by decide⟩
  have hS : ScAt w3 s l tx 0 := ⟨t, h3_s, h3_l, ht, hlen⟩
  exact loop 200 0 (by omega) (by omega) w3 0 [] 0 _ (by omega) (by omega) hS hP (fun i hi => absurd hi (Nat.not_lt_zero _)) (by omega) (fun q e1 e2 e3 => by rw [e_w3, up_n e1, e_w2, up_n e2, e_w1, up_n e2]) hRS
end
section
/-! ===== what the document's words mean, over a list of codes, a mode, a set of notes that are there ===== -/
def two (a : Nat) : Bool := (a &&& (a - 1)) != 0
/-- the set of those below n of which P is true -/
def bs (P : Nat → Bool) : Nat → Nat
  | 0 => 0
  | n + 1 => if P n then bs P n ||| 2 ^ n else bs P n
theorem bs_bit (P : Nat → Bool) : ∀ n i, (bs P n).testBit i = (decide (i < n) && P i) := by
  intro n
  induction n with
  | zero => intro i; simp [bs]
  | succ n ih =>
    intro i
    unfold bs
    by_cases h : P n = true
    · rw [if_pos h, Nat.testBit_or, ih, Nat.testBit_two_pow]
      by_cases e : n = i
      · subst e; simp [h]
      · have : (i < n + 1) ↔ (i < n) := by omega
        simp [e, this]
    · rw [if_neg h, ih]
      by_cases e : i = n
      · subst e; simp [h]
      · have : (i < n + 1) ↔ (i < n) := by omega
        simp [this]
theorem lt_of_bits {a n : Nat} (h : ∀ i, n ≤ i → a.testBit i = false) : a < 2 ^ n := by
  apply Nat.lt_pow_two_of_testBit
  exact h
theorem bs_lt (P : Nat → Bool) (n : Nat) : bs P n < 2 ^ n := lt_of_bits (fun i hi => by rw [bs_bit]; simp; omega)
theorem bs_congr {P Q : Nat → Bool} : ∀ n, (∀ i, i < n → P i = Q i) → bs P n = bs Q n := by
  intro n h
  apply Nat.eq_of_testBit_eq
  intro i
  rw [bs_bit, bs_bit]
  by_cases q : i < n
  · simp [q, h i q]
  · simp [q]
theorem eq_bs {a n : Nat} {P : Nat → Bool} (h : ∀ i, a.testBit i = (decide (i < n) && P i)) : a = bs P n := by
  apply Nat.eq_of_testBit_eq
  intro i
  rw [bs_bit, h]
def tmL (cs : List Int) (i : Nat) : Int := cs.getD i 0 / 12
def ptL (cs : List Int) (i : Nat) : Int := cs.getD i 0 % 12
def nA (nu : Nat → Int) (t p : Int) : Int := if 0 ≤ t ∧ t < 20 ∧ 0 ≤ p ∧ p < 12 then nu (t * 12 + p).toNat else -4
def metF (tf pf nu : Nat → Int) (mo : Int) (q : Nat) (d e : Int) : Int :=
  if mo = 1 then nA nu (tf q + d) ((pf q + e) % 12)
  else if nA nu (tf q + d) (pf q + e) < 0 ∧ mo = 2 then (if nA nu (tf q + d) (pf q + e - 1) < 0 then nA nu (tf q + d) (pf q + e + 1) else nA nu (tf q + d) (pf q + e - 1))
  else nA nu (tf q + d) (pf q + e)
def nuS (cs : List Int) (pr : Nat) : Nat → Nat → Int
  | 0 => fun _ => -4
  | i + 1 => if pr.testBit i then va_up (nuS cs pr i) (cs.getD i 0).toNat (i : Int) else nuS cs pr i
def metS (cs : List Int) (mo : Int) (pr : Nat) (q : Nat) (d e : Int) : Int := metF (tmL cs) (ptL cs) (nuS cs pr cs.length) mo q d e
def dK (k : Nat) : Int := (k : Int) / 23 - 19
def eK (k : Nat) : Int := (k : Int) % 23 - 11
def hitP (mo d e : Int) (k : Nat) : Prop := d = dK k ∧ (if mo = 1 then e % 12 = eK k else if mo = 2 then (e = eK k ∨ e - 1 = eK k ∨ e + 1 = eK k) else e = eK k)
def hitB (cs : List Int) (mo : Int) (b m k : Nat) : Bool := decide (tmL cs m - tmL cs b = dK k) && (if mo = 1 then decide ((ptL cs m - ptL cs b) % 12 = eK k) else if mo = 2 then (decide (ptL cs m - ptL cs b = eK k) || (decide (ptL cs m - ptL cs b - 1 = eK k) || decide (ptL cs m - ptL cs b + 1 = eK k))) else decide (ptL cs m - ptL cs b = eK k))
def lgS (cs : List Int) (mo : Int) (pr k : Nat) : Nat := bs (fun b => pr.testBit b && (List.range 14).any (fun m => pr.testBit m && hitB cs mo b m k)) 14
def wdL (cs : List Int) (mo : Int) (pr : Nat) : List Nat := (List.range 897).filter (fun k => two (lgS cs mo pr k))
def addS (acc : List Nat) (s : Nat) : List Nat := if s ∈ acc then acc else acc ++ [s]
def shL (cs : List Int) (mo : Int) (pr : Nat) : List Nat := (((wdL cs mo pr).filter (fun k => decide (448 < k))).map (lgS cs mo pr)).foldl addS []
def cvI (cs : List Int) (mo : Int) (pr set k : Nat) : Nat → Nat → Nat
  | 0, c => c
  | i + 1, c => if set.testBit i && decide (0 ≤ metS cs mo pr i (dK k) (eK k)) then cvI cs mo pr set k i c ||| 2 ^ (metS cs mo pr i (dK k) (eK k)).toNat else cvI cs mo pr set k i c
def pcS (cs : List Int) (mo : Int) (pr set : Nat) : Nat × Nat := ((wdL cs mo pr).filter (fun k => lgS cs mo pr k &&& set == set)).foldl (fun a k => (a.1 + 1, cvI cs mo pr set k 14 a.2)) (0, 0)
def gnS (cs : List Int) (mo : Int) (pr set : Nat) : Int := (pc14 (pcS cs mo pr set).2 : Int) - pc14 set - (pcS cs mo pr set).1 + 1
end
section
abbrev seO (q : Nat) (wc mo pr sc : Int) : xE := xO 5 [xr (q + 1), xr (q + 2), xr (q + 3), xr (q + 4), xr (q + 5), xi wc, xi mo, xi pr, xr (q + 6), xr (q + 7), xr (q + 8), xi sc]
abbrev mX5_numberAt : xC := mkC yX5_numberAt cX5_numberAt 3 (some .int) 1 100 0 0
set_option maxHeartbeats 4000000 in
set_option maxRecDepth 100000 in
theorem tX5_numberAt {n : Nat} {w : xW} {q : Nat} {wc mo pr sc : Int}  {nu : Nat → Int} (h_q : w q = seO q wc mo pr sc) (h_N : w (q + 3) = xA 240 nu) {t b : Int} (ht : -1000 ≤ t ∧ t ≤ 1000 ∧ -1000 ≤ b ∧ b ≤ 1000) : Ctr mX5_numberAt [xr q, xi t, xi b] n w (pI (fun v w2 => w2 = w ∧ v = nA nu t b)) := by
  refine Ctr.of ykX5_numberAt rfl (Nat.le_of_ble_eq_true rfl) okI (fun hin hW => ?_)
  show Ex _ _ 0 0 n w 0 [some (xr q), some (xi t), some (xi b)] []
  refine ex_iload_n (pc := 0) dX5_numberAt_0 rfl ?_
  refine ex_if_lt (pc := 1) dX5_numberAt_1 (tgt := 20) (by decide) (fun c1 => ?_) (fun c1 => ?_)
  · refine ex_bipush (pc := 20) dX5_numberAt_20 (by decide) ?_
    exact ex_iret (pc := 22) dX5_numberAt_22 ⟨rfl, by unfold nA; first | rw [if_neg (by omega)] | rw [if_pos (by omega)]⟩ rfl (Nat.le_refl _)
  · refine ex_iload_n (pc := 4) dX5_numberAt_4 rfl ?_
    refine ex_bipush (pc := 5) dX5_numberAt_5 (by decide) ?_
    refine ex_icmp_ge (pc := 7) dX5_numberAt_7 (tgt := 20) (by decide) (fun c7 => ?_) (fun c7 => ?_)
    · refine ex_bipush (pc := 20) dX5_numberAt_20 (by decide) ?_
      exact ex_iret (pc := 22) dX5_numberAt_22 ⟨rfl, by unfold nA; first | rw [if_neg (by omega)] | rw [if_pos (by omega)]⟩ rfl (Nat.le_refl _)
    · refine ex_iload_n (pc := 10) dX5_numberAt_10 rfl ?_
      refine ex_if_lt (pc := 11) dX5_numberAt_11 (tgt := 20) (by decide) (fun c11 => ?_) (fun c11 => ?_)
      · refine ex_bipush (pc := 20) dX5_numberAt_20 (by decide) ?_
        exact ex_iret (pc := 22) dX5_numberAt_22 ⟨rfl, by unfold nA; first | rw [if_neg (by omega)] | rw [if_pos (by omega)]⟩ rfl (Nat.le_refl _)
      · refine ex_iload_n (pc := 14) dX5_numberAt_14 rfl ?_
        refine ex_bipush (pc := 15) dX5_numberAt_15 (by decide) ?_
        refine ex_icmp_lt (pc := 17) dX5_numberAt_17 (tgt := 23) (by decide) (fun c17 => ?_) (fun c17 => ?_)
        · refine ex_aload_n (pc := 23) dX5_numberAt_23 rfl ?_
          refine ex_getfield (pc := 24) dX5_numberAt_24 fk_X5_18 h_q (by rfl) ?_
          refine ex_iload_n (pc := 27) dX5_numberAt_27 rfl ?_
          refine ex_bipush (pc := 28) dX5_numberAt_28 (by decide) ?_
          refine ex_imul (pc := 30) dX5_numberAt_30 (by unfold inI; omega) ?_
          refine ex_iload_n (pc := 31) dX5_numberAt_31 rfl ?_
          refine ex_iadd (pc := 32) dX5_numberAt_32 (by unfold inI; omega) ?_
          refine ex_iaload (pc := 33) dX5_numberAt_33 h_N (by omega) (by omega) ?_
          exact ex_iret (pc := 34) dX5_numberAt_34 ⟨rfl, by unfold nA; first | rw [if_neg (by omega)] | rw [if_pos (by omega)]⟩ rfl (Nat.le_refl _)
        · refine ex_bipush (pc := 20) dX5_numberAt_20 (by decide) ?_
          exact ex_iret (pc := 22) dX5_numberAt_22 ⟨rfl, by unfold nA; first | rw [if_neg (by omega)] | rw [if_pos (by omega)]⟩ rfl (Nat.le_refl _)

abbrev mX5_met : xC := mkC yX5_met cX5_met 7 (some .int) 2 200 0 0
set_option maxHeartbeats 4000000 in
set_option maxRecDepth 100000 in
theorem tX5_met {n : Nat} {w : xW} {q : Nat} {wc mo pr sc : Int}  {tf : Nat → Int} {pf : Nat → Int} {nu : Nat → Int} (h_q : w q = seO q wc mo pr sc) (h_T : w (q + 1) = xA 14 tf) (h_P : w (q + 2) = xA 14 pf) (h_N : w (q + 3) = xA 240 nu) {a : Nat} {d e : Int} (ha : a < 14) (hb : ∀ k, k < 14 → -300 ≤ tf k ∧ tf k ≤ 300 ∧ -300 ≤ pf k ∧ pf k ≤ 300) (hd : -300 ≤ d ∧ d ≤ 300 ∧ -300 ≤ e ∧ e ≤ 300) : Ctr mX5_met [xr q, xi a, xi d, xi e] n w (pI (fun v w2 => w2 = w ∧ v = metF tf pf nu mo a d e)) := by
  refine Ctr.of ykX5_met rfl (Nat.le_of_ble_eq_true rfl) okI (fun hin hW => ?_)
  show Ex _ _ 0 0 n w 0 [some (xr q), some (xi a), some (xi d), some (xi e), none, none, none] []
  refine ex_iload_n (pc := 0) dX5_met_0 rfl ?_
  refine ex_if_lt (pc := 1) dX5_met_1 (tgt := 10) (by decide) (fun c1 => by exfalso; omega) (fun c1 => ?_)
  refine ex_iload_n (pc := 4) dX5_met_4 rfl ?_
  refine ex_bipush (pc := 5) dX5_met_5 (by decide) ?_
  refine ex_icmp_lt (pc := 7) dX5_met_7 (tgt := 13) (by decide) (fun c7 => ?_) (fun c7 => by exfalso; omega)
  refine ex_aload_n (pc := 13) dX5_met_13 rfl ?_
  refine ex_getfield (pc := 14) dX5_met_14 fk_X5_9 h_q (by rfl) ?_
  refine ex_iload_n (pc := 17) dX5_met_17 rfl ?_
  refine ex_iaload (pc := 18) dX5_met_18 h_T (by omega) (by omega) ?_
  have hk1 : ((a : Int)).toNat = a := by omega
  have hba := hb a (by omega)
  rw [hk1]
  refine ex_iload_n (pc := 19) dX5_met_19 rfl ?_
  refine ex_iadd (pc := 20) dX5_met_20 (by unfold inI; omega) ?_
  refine ex_istore (L2 := [_, _, _, _, _, _, _]) (pc := 21) dX5_met_21 rfl (Nat.le_of_ble_eq_true rfl) rfl ?_
  refine ex_aload_n (pc := 23) dX5_met_23 rfl ?_
  refine ex_getfield (pc := 24) dX5_met_24 fk_X5_15 h_q (by rfl) ?_
  refine ex_iload_n (pc := 27) dX5_met_27 rfl ?_
  refine ex_iaload (pc := 28) dX5_met_28 h_P (by omega) (by omega) ?_
  rw [hk1]
  refine ex_iload_n (pc := 29) dX5_met_29 rfl ?_
  refine ex_iadd (pc := 30) dX5_met_30 (by unfold inI; omega) ?_
  refine ex_istore (L2 := [_, _, _, _, _, _, _]) (pc := 31) dX5_met_31 rfl (Nat.le_of_ble_eq_true rfl) rfl ?_
  refine ex_aload_n (pc := 33) dX5_met_33 rfl ?_
  refine ex_getfield (pc := 34) dX5_met_34 fk_X5_42 h_q (by rfl) ?_
  refine ex_iconst (pc := 37) dX5_met_37 (by decide) ?_
  refine ex_icmp_ne (pc := 38) dX5_met_38 (tgt := 55) (by decide) (fun c38 => ?_) (fun c38 => ?_)
  · refine ex_aload_n (pc := 55) dX5_met_55 rfl ?_
    refine ex_iload (pc := 56) dX5_met_56 rfl ?_
    refine ex_iload (pc := 58) dX5_met_58 rfl ?_
    refine ex_callVI (as := [_, _]) (pc := 60) dX5_met_60 (tX5_numberAt h_q h_N (by omega)) lk_X5_129 ykX5_numberAt vkX5_numberAt h_q rfl rfl rfl (Nat.le_of_ble_eq_true rfl) ⟨by decide, by decide⟩ ⟨Nat.le_refl _, Nat.le_refl _⟩ (fun i60 w1 r60 p60 => ?_)
    obtain ⟨e60, p60⟩ := p60
    subst e60
    refine ex_istore (L2 := [_, _, _, _, _, _, _]) (pc := 63) dX5_met_63 rfl (Nat.le_of_ble_eq_true rfl) rfl ?_
    refine ex_iload (pc := 65) dX5_met_65 rfl ?_
    refine ex_if_ge (pc := 67) dX5_met_67 (tgt := 107) (by decide) (fun c67 => ?_) (fun c67 => ?_)
    · refine ex_iload (pc := 107) dX5_met_107 rfl ?_
      exact ex_iret (pc := 109) dX5_met_109 ⟨rfl, by unfold metF; rw [if_neg c38, ← p60, if_neg (by omega)]⟩ rfl (Nat.le_refl _)
    · refine ex_aload_n (pc := 70) dX5_met_70 rfl ?_
      refine ex_getfield (pc := 71) dX5_met_71 fk_X5_42 h_q (by rfl) ?_
      refine ex_iconst (pc := 74) dX5_met_74 (by decide) ?_
      refine ex_icmp_ne (pc := 75) dX5_met_75 (tgt := 107) (by decide) (fun c75 => ?_) (fun c75 => ?_)
      · refine ex_iload (pc := 107) dX5_met_107 rfl ?_
        exact ex_iret (pc := 109) dX5_met_109 ⟨rfl, by unfold metF; rw [if_neg c38, ← p60, if_neg (by omega)]⟩ rfl (Nat.le_refl _)
      · refine ex_aload_n (pc := 78) dX5_met_78 rfl ?_
        refine ex_iload (pc := 79) dX5_met_79 rfl ?_
        refine ex_iload (pc := 81) dX5_met_81 rfl ?_
        refine ex_iconst (pc := 83) dX5_met_83 (by decide) ?_
        refine ex_isub (pc := 84) dX5_met_84 (by unfold inI; omega) ?_
        refine ex_callVI (as := [_, _]) (pc := 85) dX5_met_85 (tX5_numberAt h_q h_N (by omega)) lk_X5_129 ykX5_numberAt vkX5_numberAt h_q rfl rfl rfl (Nat.le_of_ble_eq_true rfl) ⟨by decide, by decide⟩ ⟨Nat.le_refl _, Nat.le_refl _⟩ (fun i85 w1 r85 p85 => ?_)
        obtain ⟨e85, p85⟩ := p85
        subst e85
        refine ex_istore (L2 := [_, _, _, _, _, _, _]) (pc := 88) dX5_met_88 rfl (Nat.le_of_ble_eq_true rfl) rfl ?_
        refine ex_iload (pc := 90) dX5_met_90 rfl ?_
        refine ex_if_ge (pc := 92) dX5_met_92 (tgt := 107) (by decide) (fun c92 => ?_) (fun c92 => ?_)
        · refine ex_iload (pc := 107) dX5_met_107 rfl ?_
          exact ex_iret (pc := 109) dX5_met_109 ⟨rfl, by unfold metF; rw [if_neg c38, ← p60, if_pos (by omega), ← p85, if_neg (by omega)]⟩ rfl (Nat.le_refl _)
        · refine ex_aload_n (pc := 95) dX5_met_95 rfl ?_
          refine ex_iload (pc := 96) dX5_met_96 rfl ?_
          refine ex_iload (pc := 98) dX5_met_98 rfl ?_
          refine ex_iconst (pc := 100) dX5_met_100 (by decide) ?_
          refine ex_iadd (pc := 101) dX5_met_101 (by unfold inI; omega) ?_
          refine ex_callVI (as := [_, _]) (pc := 102) dX5_met_102 (tX5_numberAt h_q h_N (by omega)) lk_X5_129 ykX5_numberAt vkX5_numberAt h_q rfl rfl rfl (Nat.le_of_ble_eq_true rfl) ⟨by decide, by decide⟩ ⟨Nat.le_refl _, Nat.le_refl _⟩ (fun i102 w1 r102 p102 => ?_)
          obtain ⟨e102, p102⟩ := p102
          subst e102
          refine ex_istore (L2 := [_, _, _, _, _, _, _]) (pc := 105) dX5_met_105 rfl (Nat.le_of_ble_eq_true rfl) rfl ?_
          refine ex_iload (pc := 107) dX5_met_107 rfl ?_
          exact ex_iret (pc := 109) dX5_met_109 ⟨rfl, by unfold metF; rw [if_neg c38, ← p60, if_pos (by omega), ← p85, if_pos (by omega), ← p102]⟩ rfl (Nat.le_refl _)
  · refine ex_aload_n (pc := 41) dX5_met_41 rfl ?_
    refine ex_iload (pc := 42) dX5_met_42 rfl ?_
    refine ex_iload (pc := 44) dX5_met_44 rfl ?_
    refine ex_bipush (pc := 46) dX5_met_46 (by decide) ?_
    refine ex_callSI (as := [_, _]) (pc := 48) dX5_met_48 (tJ9_floorMod_7cf53) lk_X5_87 ykJ9_floorMod_7cf53 zkJ9_floorMod_7cf53 rfl rfl (Nat.le_of_ble_eq_true rfl) ⟨by decide, by decide⟩ ⟨Nat.le_refl _, Nat.le_refl _⟩ (fun i48 w1 r48 p48 => ?_)
    obtain ⟨e48, p48⟩ := p48
    subst e48
    refine ex_callVI (as := [_, _]) (pc := 51) dX5_met_51 (tX5_numberAt h_q h_N (by omega)) lk_X5_129 ykX5_numberAt vkX5_numberAt h_q rfl rfl rfl (Nat.le_of_ble_eq_true rfl) ⟨by decide, by decide⟩ ⟨Nat.le_refl _, Nat.le_refl _⟩ (fun i51 w1 r51 p51 => ?_)
    obtain ⟨e51, p51⟩ := p51
    subst e51
    exact ex_iret (pc := 54) dX5_met_54 ⟨rfl, by unfold metF; rw [if_pos c38, p51, p48]⟩ rfl (Nat.le_refl _)

def entF (lb : Nat → Nat) (a : Nat) (d e : Int) : Nat → Nat := if -19 ≤ d ∧ d ≤ 19 ∧ -11 ≤ e ∧ e ≤ 11 then va_up lb ((d + 19) * 23 + e + 11).toNat (lb ((d + 19) * 23 + e + 11).toNat ||| 2 ^ a) else lb
theorem entF_lt {lb : Nat → Nat} (h : ∀ k, lb k < 16384) {a : Nat} (ha : a < 14) {d e : Int} : ∀ k, entF lb a d e k < 16384 := by
  intro k
  unfold entF
  split
  · by_cases q : k = ((d + 19) * 23 + e + 11).toNat
    · rw [q, up_s]
      exact Nat.or_lt_two_pow (n := 14) (h _) (Nat.pow_lt_pow_right (by decide) ha)
    · rw [up_n q]; exact h k
  · exact h k
theorem entF_bit {lb : Nat → Nat} {a : Nat} {d e : Int} {k b : Nat} (hk : k < 897) : (entF lb a d e k).testBit b = true ↔ (lb k).testBit b = true ∨ (d = dK k ∧ e = eK k ∧ b = a) := by
  unfold entF dK eK
  split
  · rename_i h
    by_cases q : k = ((d + 19) * 23 + e + 11).toNat
    · rw [← q, up_s, Nat.testBit_or, Nat.testBit_two_pow]
      simp only [Bool.or_eq_true, decide_eq_true_eq]
      constructor
      · rintro (z | z)
        · exact Or.inl z
        · exact Or.inr ⟨by omega, by omega, z.symm⟩
      · rintro (z | ⟨-, -, z⟩)
        · exact Or.inl z
        · exact Or.inr z.symm
    · rw [up_n q]
      constructor
      · exact Or.inl
      · rintro (z | ⟨z1, z2, -⟩)
        · exact z
        · exfalso; omega
  · rename_i h
    constructor
    · exact Or.inl
    · rintro (z | ⟨z1, z2, -⟩)
      · exact z
      · exfalso; omega
abbrev mX5_enter : xC := mkC yX5_enter cX5_enter 4 none 2 200 0 0
set_option maxHeartbeats 4000000 in
set_option maxRecDepth 100000 in
theorem tX5_enter {n : Nat} {w : xW} {q : Nat} {wc mo pr sc : Int}  {lb : Nat → Nat} (h_q : w q = seO q wc mo pr sc) (h_A : w (q + 4) = xA 897 (fun i => (lb i : Int))) (hlb : ∀ k, lb k < 16384) {a : Nat} (ha : a < 14) {d e : Int} (hde : -300 ≤ d ∧ d ≤ 300 ∧ -300 ≤ e ∧ e ≤ 300) : Ctr mX5_enter [xr q, xi a, xi d, xi e] n w (pV (fun w2 => w2 = va_up w (q + 4) (xA 897 (fun i => (entF lb a d e i : Int))))) := by
  refine Ctr.of ykX5_enter rfl (Nat.le_of_ble_eq_true rfl) okV (fun hin hW => ?_)
  show Ex _ _ 0 0 n w 0 [some (xr q), some (xi a), some (xi d), some (xi e)] []
  refine ex_iload_n (pc := 0) dX5_enter_0 rfl ?_
  refine ex_iload_n (pc := 1) dX5_enter_1 rfl ?_
  refine ex_callSZ (as := [_, _]) (pc := 2) dX5_enter_2 (tX5_isHeld) lk_X5_96 ykX5_isHeld zkX5_isHeld rfl rfl (Nat.le_of_ble_eq_true rfl) ⟨by decide, by decide⟩ ⟨Nat.le_refl _, Nat.le_refl _⟩ (fun i2 w1 r2 p2 => ?_)
  obtain ⟨e2, p2⟩ := p2
  subst e2
  refine ex_if_eq (pc := 5) dX5_enter_5 (tgt := 24) (by decide) (fun c5 => ?_) (fun c5 => ?_)
  · exact ex_vret (pc := 24) dX5_enter_24 (by unfold entF; rw [if_neg (by omega)]; exact (up_self h_A).symm) rfl (Nat.le_refl _)
  · refine ex_aload_n (pc := 8) dX5_enter_8 rfl ?_
    refine ex_getfield (pc := 9) dX5_enter_9 fk_X5_21 h_q (by rfl) ?_
    refine ex_iload_n (pc := 12) dX5_enter_12 rfl ?_
    refine ex_iload_n (pc := 13) dX5_enter_13 rfl ?_
    refine ex_callSI (as := [_, _]) (pc := 14) dX5_enter_14 (tX5_shiftOf (by omega)) lk_X5_99 ykX5_shiftOf zkX5_shiftOf rfl rfl (Nat.le_of_ble_eq_true rfl) ⟨by decide, by decide⟩ ⟨Nat.le_refl _, Nat.le_refl _⟩ (fun i14 w1 r14 p14 => ?_)
    obtain ⟨e14, p14⟩ := p14
    subst e14
    subst p14
    refine ex_dup2 (pc := 17) dX5_enter_17 rfl rfl ?_
    refine ex_iaload (pc := 18) dX5_enter_18 h_A (by omega) (by omega) ?_
    refine ex_iconst (pc := 19) dX5_enter_19 (by decide) ?_
    refine ex_iload_n (pc := 20) dX5_enter_20 rfl ?_
    refine ex_ishl (pc := 21) dX5_enter_21 ?_
    rw [show ((1 : Int)) = 1 from rfl]
    refine ex_eq (xshl_n a (by omega)) ?_
    refine ex_ior (pc := 22) dX5_enter_22 ?_
    refine ex_eq (xor_n (by have := hlb ((d + 19) * 23 + e + 11).toNat; omega) (Nat.lt_of_lt_of_le (Nat.pow_lt_pow_right (by decide) ha) (by decide))) ?_
    refine ex_iastore (pc := 23) dX5_enter_23 h_A (by omega) (by omega) ?_
    refine ex_up (fun w1 e_w2 => ?_)
    have h1_q := ((congrFun e_w2 q).trans (up_n (by first | assumption | decide | omega))).trans h_q
    have h1_A := (congrFun e_w2 (q + 4)).trans up_s
    exact ex_vret (pc := 24) dX5_enter_24 (by
  rw [e_w2]
  unfold entF
  rw [if_pos (by omega)]
  congr 2
  funext z
  by_cases y : z = ((d + 19) * 23 + e + 11).toNat
  · rw [y, up_s, up_s]
  · rw [up_n y, up_n y]) rfl (Nat.le_refl _)
end
section
def prF (mo d e : Int) (lb : Nat → Nat) (a : Nat) : Nat → Nat := if mo = 1 then entF lb a d (e % 12) else if mo = 2 then entF (entF (entF lb a d e) a d (e - 1)) a d (e + 1) else entF lb a d e
theorem prF_lt {mo d e : Int} {lb : Nat → Nat} (h : ∀ k, lb k < 16384) {a : Nat} (ha : a < 14) : ∀ k, prF mo d e lb a k < 16384 := by
  unfold prF
  split
  · exact entF_lt h ha
  · split
    · exact entF_lt (entF_lt (entF_lt h ha) ha) ha
    · exact entF_lt h ha
theorem prF_bit {mo d e : Int} {lb : Nat → Nat} {a k b : Nat} (hk : k < 897) : (prF mo d e lb a k).testBit b = true ↔ (lb k).testBit b = true ∨ (hitP mo d e k ∧ b = a) := by
  unfold prF hitP
  by_cases h1 : mo = 1
  · rw [if_pos h1, if_pos h1, entF_bit hk]
    constructor
    · rintro (z | ⟨z1, z2, z3⟩)
      · exact Or.inl z
      · exact Or.inr ⟨⟨z1, z2⟩, z3⟩
    · rintro (z | ⟨⟨z1, z2⟩, z3⟩)
      · exact Or.inl z
      · exact Or.inr ⟨z1, z2, z3⟩
  · rw [if_neg h1, if_neg h1]
    by_cases h2 : mo = 2
    · rw [if_pos h2, if_pos h2, entF_bit hk, entF_bit hk, entF_bit hk]
      constructor
      · rintro (((z | ⟨z1, z2, z3⟩) | ⟨z1, z2, z3⟩) | ⟨z1, z2, z3⟩)
        · exact Or.inl z
        · exact Or.inr ⟨⟨z1, Or.inl z2⟩, z3⟩
        · exact Or.inr ⟨⟨z1, Or.inr (Or.inl z2)⟩, z3⟩
        · exact Or.inr ⟨⟨z1, Or.inr (Or.inr z2)⟩, z3⟩
      · rintro (z | ⟨⟨z1, z2 | z2 | z2⟩, z3⟩)
        · exact Or.inl (Or.inl (Or.inl z))
        · exact Or.inl (Or.inl (Or.inr ⟨z1, z2, z3⟩))
        · exact Or.inl (Or.inr ⟨z1, z2, z3⟩)
        · exact Or.inr ⟨z1, z2, z3⟩
    · rw [if_neg h2, if_neg h2, entF_bit hk]
      constructor
      · rintro (z | ⟨z1, z2, z3⟩)
        · exact Or.inl z
        · exact Or.inr ⟨⟨z1, z2⟩, z3⟩
      · rintro (z | ⟨⟨z1, z2⟩, z3⟩)
        · exact Or.inl z
        · exact Or.inr ⟨z1, z2, z3⟩
abbrev mX5_enterPair : xC := mkC yX5_enterPair cX5_enterPair 5 none 3 300 0 0
set_option maxHeartbeats 4000000 in
set_option maxRecDepth 100000 in
theorem tX5_enterPair {n : Nat} {w : xW} {q : Nat} {wc mo pr sc : Int}  {tf : Nat → Int} {pf : Nat → Int} {lb : Nat → Nat} (h_q : w q = seO q wc mo pr sc) (h_T : w (q + 1) = xA 14 tf) (h_P : w (q + 2) = xA 14 pf) (h_A : w (q + 4) = xA 897 (fun i => (lb i : Int))) (hlb : ∀ k, lb k < 16384) {a m : Nat} (ha : a < 14) (hm : m < 14) (hb : ∀ k, k < 14 → -100 ≤ tf k ∧ tf k ≤ 100 ∧ -100 ≤ pf k ∧ pf k ≤ 100) : Ctr mX5_enterPair [xr q, xi a, xi m] n w (pV (fun w2 => w2 = va_up w (q + 4) (xA 897 (fun i => (prF mo (tf m - tf a) (pf m - pf a) lb a i : Int))))) := by
  refine Ctr.of ykX5_enterPair rfl (Nat.le_of_ble_eq_true rfl) okV (fun hin hW => ?_)
  show Ex _ _ 0 0 n w 0 [some (xr q), some (xi a), some (xi m), none, none] []
  refine ex_aload_n (pc := 0) dX5_enterPair_0 rfl ?_
  refine ex_getfield (pc := 1) dX5_enterPair_1 fk_X5_9 h_q (by rfl) ?_
  refine ex_iload_n (pc := 4) dX5_enterPair_4 rfl ?_
  refine ex_iaload (pc := 5) dX5_enterPair_5 h_T (by omega) (by omega) ?_
  have hka : ((a : Int)).toNat = a := by omega
  have hkm : ((m : Int)).toNat = m := by omega
  have hba := hb a ha
  have hbm := hb m hm
  rw [hkm]
  refine ex_aload_n (pc := 6) dX5_enterPair_6 rfl ?_
  refine ex_getfield (pc := 7) dX5_enterPair_7 fk_X5_9 h_q (by rfl) ?_
  refine ex_iload_n (pc := 10) dX5_enterPair_10 rfl ?_
  refine ex_iaload (pc := 11) dX5_enterPair_11 h_T (by omega) (by omega) ?_
  rw [hka]
  refine ex_isub (pc := 12) dX5_enterPair_12 (by unfold inI; omega) ?_
  refine ex_istore_n (L2 := [_, _, _, _, _]) (pc := 13) dX5_enterPair_13 rfl (Nat.le_of_ble_eq_true rfl) rfl ?_
  refine ex_aload_n (pc := 14) dX5_enterPair_14 rfl ?_
  refine ex_getfield (pc := 15) dX5_enterPair_15 fk_X5_15 h_q (by rfl) ?_
  refine ex_iload_n (pc := 18) dX5_enterPair_18 rfl ?_
  refine ex_iaload (pc := 19) dX5_enterPair_19 h_P (by omega) (by omega) ?_
  rw [hkm]
  refine ex_aload_n (pc := 20) dX5_enterPair_20 rfl ?_
  refine ex_getfield (pc := 21) dX5_enterPair_21 fk_X5_15 h_q (by rfl) ?_
  refine ex_iload_n (pc := 24) dX5_enterPair_24 rfl ?_
  refine ex_iaload (pc := 25) dX5_enterPair_25 h_P (by omega) (by omega) ?_
  rw [hka]
  refine ex_isub (pc := 26) dX5_enterPair_26 (by unfold inI; omega) ?_
  refine ex_istore (L2 := [_, _, _, _, _]) (pc := 27) dX5_enterPair_27 rfl (Nat.le_of_ble_eq_true rfl) rfl ?_
  refine ex_aload_n (pc := 29) dX5_enterPair_29 rfl ?_
  refine ex_getfield (pc := 30) dX5_enterPair_30 fk_X5_42 h_q (by rfl) ?_
  refine ex_iconst (pc := 33) dX5_enterPair_33 (by decide) ?_
  refine ex_icmp_ne (pc := 34) dX5_enterPair_34 (tgt := 51) (by decide) (fun c34 => ?_) (fun c34 => ?_)
  · refine ex_aload_n (pc := 51) dX5_enterPair_51 rfl ?_
    refine ex_iload_n (pc := 52) dX5_enterPair_52 rfl ?_
    refine ex_iload_n (pc := 53) dX5_enterPair_53 rfl ?_
    refine ex_iload (pc := 54) dX5_enterPair_54 rfl ?_
    refine ex_callVV (as := [_, _, _]) (pc := 56) dX5_enterPair_56 (tX5_enter h_q h_A hlb ha (by omega)) lk_X5_92 ykX5_enter vkX5_enter h_q rfl rfl rfl (Nat.le_of_ble_eq_true rfl) ⟨by decide, by decide⟩ ⟨Nat.le_refl _, Nat.le_refl _⟩ (fun w1 p56 => ?_)
    have e56 : w1 = _ := p56
    have h1_q := (congrFun e56 q).trans ((up_n (by omega)).trans h_q)
    have h1_A := (congrFun e56 (q + 4)).trans up_s
    have h1_T := (congrFun e56 (q + 1)).trans ((up_n (by omega)).trans h_T)
    have h1_P := (congrFun e56 (q + 2)).trans ((up_n (by omega)).trans h_P)
    refine ex_aload_n (pc := 59) dX5_enterPair_59 rfl ?_
    refine ex_getfield (pc := 60) dX5_enterPair_60 fk_X5_42 h1_q (by rfl) ?_
    refine ex_iconst (pc := 63) dX5_enterPair_63 (by decide) ?_
    refine ex_icmp_ne (pc := 64) dX5_enterPair_64 (tgt := 87) (by decide) (fun c64 => ?_) (fun c64 => ?_)
    · exact ex_vret (pc := 87) dX5_enterPair_87 (by rw [e56]; unfold prF; rw [if_neg (by omega), if_neg (by omega)]) rfl (Nat.le_refl _)
    · refine ex_aload_n (pc := 67) dX5_enterPair_67 rfl ?_
      refine ex_iload_n (pc := 68) dX5_enterPair_68 rfl ?_
      refine ex_iload_n (pc := 69) dX5_enterPair_69 rfl ?_
      refine ex_iload (pc := 70) dX5_enterPair_70 rfl ?_
      refine ex_iconst (pc := 72) dX5_enterPair_72 (by decide) ?_
      refine ex_isub (pc := 73) dX5_enterPair_73 (by unfold inI; omega) ?_
      refine ex_callVV (as := [_, _, _]) (pc := 74) dX5_enterPair_74 (tX5_enter h1_q h1_A (entF_lt hlb ha) ha (by omega)) lk_X5_92 ykX5_enter vkX5_enter h1_q rfl rfl rfl (Nat.le_of_ble_eq_true rfl) ⟨by decide, by decide⟩ ⟨Nat.le_refl _, Nat.le_refl _⟩ (fun w2 p74 => ?_)
      have e74 : w2 = _ := p74
      have h2_q := (congrFun e74 q).trans ((up_n (by omega)).trans h1_q)
      have h2_A := (congrFun e74 (q + 4)).trans up_s
      have h2_T := h1_T
      have h2_P := h1_P
      refine ex_aload_n (pc := 77) dX5_enterPair_77 rfl ?_
      refine ex_iload_n (pc := 78) dX5_enterPair_78 rfl ?_
      refine ex_iload_n (pc := 79) dX5_enterPair_79 rfl ?_
      refine ex_iload (pc := 80) dX5_enterPair_80 rfl ?_
      refine ex_iconst (pc := 82) dX5_enterPair_82 (by decide) ?_
      refine ex_iadd (pc := 83) dX5_enterPair_83 (by unfold inI; omega) ?_
      refine ex_callVV (as := [_, _, _]) (pc := 84) dX5_enterPair_84 (tX5_enter h2_q h2_A (entF_lt (entF_lt hlb ha) ha) ha (by omega)) lk_X5_92 ykX5_enter vkX5_enter h2_q rfl rfl rfl (Nat.le_of_ble_eq_true rfl) ⟨by decide, by decide⟩ ⟨Nat.le_refl _, Nat.le_refl _⟩ (fun w3 p84 => ?_)
      have e84 : w3 = _ := p84
      exact ex_vret (pc := 87) dX5_enterPair_87 (by rw [e84, e74, e56]; unfold prF; rw [if_neg (by omega), if_pos (by omega), up_up, up_up]) rfl (Nat.le_refl _)
  · refine ex_aload_n (pc := 37) dX5_enterPair_37 rfl ?_
    refine ex_iload_n (pc := 38) dX5_enterPair_38 rfl ?_
    refine ex_iload_n (pc := 39) dX5_enterPair_39 rfl ?_
    refine ex_iload (pc := 40) dX5_enterPair_40 rfl ?_
    refine ex_bipush (pc := 42) dX5_enterPair_42 (by decide) ?_
    refine ex_callSI (as := [_, _]) (pc := 44) dX5_enterPair_44 (tJ9_floorMod_7cf53) lk_X5_87 ykJ9_floorMod_7cf53 zkJ9_floorMod_7cf53 rfl rfl (Nat.le_of_ble_eq_true rfl) ⟨by decide, by decide⟩ ⟨Nat.le_refl _, Nat.le_refl _⟩ (fun i44 w1 r44 p44 => ?_)
    obtain ⟨e44, p44⟩ := p44
    subst e44
    subst p44
    refine ex_callVV (as := [_, _, _]) (pc := 47) dX5_enterPair_47 (tX5_enter h_q h_A hlb ha (by omega)) lk_X5_92 ykX5_enter vkX5_enter h_q rfl rfl rfl (Nat.le_of_ble_eq_true rfl) ⟨by decide, by decide⟩ ⟨Nat.le_refl _, Nat.le_refl _⟩ (fun w1 p47 => ?_)
    have e47 : w1 = _ := p47
    exact ex_vret (pc := 50) dX5_enterPair_50 (by rw [e47]; unfold prF; rw [if_pos c34]) rfl (Nat.le_refl _)

abbrev mX5_findLargests : xC := mkC yX5_findLargests cX5_findLargests 3 none 4 400 0 0
def lgI (tf pf : Nat → Int) (mo : Int) (pN a m : Nat) (lb : Nat → Nat) : Prop := ∀ k, k < 897 → ∀ b, (lb k).testBit b = true ↔ (pN.testBit b = true ∧ ∃ m2, m2 < 14 ∧ pN.testBit m2 = true ∧ hitP mo (tf m2 - tf b) (pf m2 - pf b) k ∧ (b < a ∨ (b = a ∧ m2 < m)))
theorem lgI_row {tf pf : Nat → Int} {mo : Int} {pN a : Nat} {m : Nat} {lb : Nat → Nat} (h : lgI tf pf mo pN a m lb) (hm : m = 14 ∨ pN.testBit a = false) : lgI tf pf mo pN (a + 1) 0 lb := by
  intro k hk b
  rw [h k hk b]
  constructor
  · rintro ⟨h1, m2, h2, h3, h4, h5⟩
    exact ⟨h1, m2, h2, h3, h4, Or.inl (by omega)⟩
  · rintro ⟨h1, m2, h2, h3, h4, h5⟩
    refine ⟨h1, m2, h2, h3, h4, ?_⟩
    rcases hm with hm | hm
    · omega
    · by_cases e : b = a
      · subst e; rw [hm] at h1; cases h1
      · omega
theorem lgI_skip {tf pf : Nat → Int} {mo : Int} {pN a : Nat} {m : Nat} {lb : Nat → Nat} (h : lgI tf pf mo pN a m lb) (hm : pN.testBit m = false) : lgI tf pf mo pN a (m + 1) lb := by
  intro k hk b
  rw [h k hk b]
  constructor
  · rintro ⟨h1, m2, h2, h3, h4, h5⟩
    exact ⟨h1, m2, h2, h3, h4, by omega⟩
  · rintro ⟨h1, m2, h2, h3, h4, h5⟩
    refine ⟨h1, m2, h2, h3, h4, ?_⟩
    by_cases e : m2 = m
    · subst e; rw [hm] at h3; cases h3
    · omega
theorem lgI_pair {tf pf : Nat → Int} {mo : Int} {pN a : Nat} {m : Nat} {lb : Nat → Nat} (h : lgI tf pf mo pN a m lb) (hm : m < 14) (h8 : pN.testBit m = true) (h9 : pN.testBit a = true) : lgI tf pf mo pN a (m + 1) (prF mo (tf m - tf a) (pf m - pf a) lb a) := by
  intro k hk b
  rw [prF_bit hk, h k hk b]
  constructor
  · rintro (⟨h1, m2, h2, h3, h4, h5⟩ | ⟨h1, h2⟩)
    · exact ⟨h1, m2, h2, h3, h4, by omega⟩
    · subst h2
      exact ⟨h9, m, hm, h8, h1, Or.inr ⟨rfl, by omega⟩⟩
  · rintro ⟨h1, m2, h2, h3, h4, h5⟩
    by_cases e : b = a ∧ m2 = m
    · obtain ⟨rfl, rfl⟩ := e
      exact Or.inr ⟨h4, rfl⟩
    · exact Or.inl ⟨h1, m2, h2, h3, h4, by omega⟩
set_option maxHeartbeats 4000000 in
set_option maxRecDepth 100000 in
theorem tX5_findLargests {n : Nat} {w : xW} {q : Nat} {wc mo sc : Int} {pN : Nat}  {tf : Nat → Int} {pf : Nat → Int} {lb : Nat → Nat} (h_q : w q = seO q wc mo pN sc) (h_T : w (q + 1) = xA 14 tf) (h_P : w (q + 2) = xA 14 pf) (h_A : w (q + 4) = xA 897 (fun i => (lb i : Int))) (hpN : pN < 16384) (hlb : ∀ k, lb k < 16384) (hb : ∀ k, k < 14 → -100 ≤ tf k ∧ tf k ≤ 100 ∧ -100 ≤ pf k ∧ pf k ≤ 100) : Ctr mX5_findLargests [xr q] n w (pV (fun w2 => ∃ lb2 : Nat → Nat, (∀ k, lb2 k < 16384) ∧ lgI tf pf mo pN 14 0 lb2 ∧ w2 = va_up w (q + 4) (xA 897 (fun i => (lb2 i : Int))))) := by
  refine Ctr.of ykX5_findLargests rfl (Nat.le_of_ble_eq_true rfl) okV (fun hin hW => ?_)
  show Ex _ _ 0 0 n w 0 [some (xr q), none, none] []
  have outer : ∀ (d1 a : Nat), a ≤ 14 → 15 ≤ a + d1 → ∀ (lb : Nat → Nat) (x2 : Option xV), (∀ k, lb k < 16384) → lgI tf pf mo pN a 0 lb → Ex mX5_findLargests (pV (fun w2 => ∃ lb2 : Nat → Nat, (∀ k, lb2 k < 16384) ∧ lgI tf pf mo pN 14 0 lb2 ∧ w2 = va_up w (q + 4) (xA 897 (fun i => (lb2 i : Int))))) 0 0 n (va_up w (q + 4) (xA 897 (fun i => (lb i : Int)))) 10 [some (xr q), some (xi a), x2] [] := by
    intro d1
    induction d1 with
    | zero => intro a h1 h2; omega
    | succ d1 ih =>
      intro a h1 h2 lb x2 hlb hI
      have inner : ∀ (d2 m : Nat), a < 14 → m ≤ 14 → 15 ≤ m + d2 → ∀ (lb : Nat → Nat), (∀ k, lb k < 16384) → lgI tf pf mo pN a m lb → Ex mX5_findLargests (pV (fun w2 => ∃ lb2 : Nat → Nat, (∀ k, lb2 k < 16384) ∧ lgI tf pf mo pN 14 0 lb2 ∧ w2 = va_up w (q + 4) (xA 897 (fun i => (lb2 i : Int))))) 0 0 n (va_up w (q + 4) (xA 897 (fun i => (lb i : Int)))) 18 [some (xr q), some (xi a), some (xi m)] [] := by
        intro d2
        induction d2 with
        | zero => intro m h0 h1 h2; omega
        | succ d2 ih2 =>
          intro m h0 h3 h4 lb hlb hI
          refine ex_iload_n (pc := 18) dX5_findLargests_18 rfl ?_
          refine ex_bipush (pc := 19) dX5_findLargests_19 (by decide) ?_
          refine ex_icmp_ge (pc := 21) dX5_findLargests_21 (tgt := 58) (by decide) (fun c21 => ?_) (fun c21 => ?_)
          · refine ex_iinc (L2 := [_, _, _]) (pc := 58) dX5_findLargests_58 rfl rfl (Nat.le_of_ble_eq_true rfl) (by unfold inI; omega) rfl ?_
            refine ex_goto (pc := 61) dX5_findLargests_61 (tgt := 10) (by decide) ?_
            exact ih (a + 1) (by omega) (by omega) lb _ hlb (lgI_row hI (Or.inl (by omega)))
          · refine ex_aload_n (pc := 24) dX5_findLargests_24 rfl ?_
            refine ex_getfield (pc := 25) dX5_findLargests_25 fk_X5_47 ((up_n (by omega)).trans h_q) (by rfl) ?_
            refine ex_iload_n (pc := 28) dX5_findLargests_28 rfl ?_
            refine ex_callSZ (as := [_, _]) (pc := 29) dX5_findLargests_29 (tX5_has (a := pN) (q := a) (by omega) (by omega)) lk_X5_66 ykX5_has zkX5_has rfl rfl (Nat.le_of_ble_eq_true rfl) ⟨by decide, by decide⟩ ⟨Nat.le_refl _, Nat.le_refl _⟩ (fun i29 w1 r29 p29 => ?_)
            obtain ⟨e29, p29⟩ := p29
            subst e29
            refine ex_if_eq (pc := 32) dX5_findLargests_32 (tgt := 58) (by decide) (fun c32 => ?_) (fun c32 => ?_)
            · refine ex_iinc (L2 := [_, _, _]) (pc := 58) dX5_findLargests_58 rfl rfl (Nat.le_of_ble_eq_true rfl) (by unfold inI; omega) rfl ?_
              refine ex_goto (pc := 61) dX5_findLargests_61 (tgt := 10) (by decide) ?_
              exact ih (a + 1) (by omega) (by omega) lb _ hlb (lgI_row hI (Or.inr (by cases hz : pN.testBit a with | false => rfl | true => exfalso; have := p29.mpr hz; omega)))
            · refine ex_aload_n (pc := 35) dX5_findLargests_35 rfl ?_
              refine ex_getfield (pc := 36) dX5_findLargests_36 fk_X5_47 ((up_n (by omega)).trans h_q) (by rfl) ?_
              refine ex_iload_n (pc := 39) dX5_findLargests_39 rfl ?_
              refine ex_callSZ (as := [_, _]) (pc := 40) dX5_findLargests_40 (tX5_has (a := pN) (q := m) (by omega) (by omega)) lk_X5_66 ykX5_has zkX5_has rfl rfl (Nat.le_of_ble_eq_true rfl) ⟨by decide, by decide⟩ ⟨Nat.le_refl _, Nat.le_refl _⟩ (fun i40 w1 r40 p40 => ?_)
              obtain ⟨e40, p40⟩ := p40
              subst e40
              refine ex_if_eq (pc := 43) dX5_findLargests_43 (tgt := 52) (by decide) (fun c43 => ?_) (fun c43 => ?_)
              · refine ex_iinc (L2 := [_, _, _]) (pc := 52) dX5_findLargests_52 rfl rfl (Nat.le_of_ble_eq_true rfl) (by unfold inI; omega) rfl ?_
                refine ex_goto (pc := 55) dX5_findLargests_55 (tgt := 18) (by decide) ?_
                exact ih2 (m + 1) h0 (by omega) (by omega) lb hlb (lgI_skip hI (by cases hz : pN.testBit m with | false => rfl | true => exfalso; have := p40.mpr hz; omega))
              · refine ex_aload_n (pc := 46) dX5_findLargests_46 rfl ?_
                refine ex_iload_n (pc := 47) dX5_findLargests_47 rfl ?_
                refine ex_iload_n (pc := 48) dX5_findLargests_48 rfl ?_
                refine ex_callVV (as := [_, _]) (pc := 49) dX5_findLargests_49 (tX5_enterPair (lb := lb) ((up_n (by omega)).trans h_q) ((up_n (by omega)).trans h_T) ((up_n (by omega)).trans h_P) up_s hlb (a := a) (m := m) (by omega) (by omega) hb) lk_X5_83 ykX5_enterPair vkX5_enterPair ((up_n (by omega)).trans h_q) rfl rfl rfl (Nat.le_of_ble_eq_true rfl) ⟨by decide, by decide⟩ ⟨Nat.le_refl _, Nat.le_refl _⟩ (fun w1 p49 => ?_)
                rw [up_up] at p49
                subst p49
                refine ex_iinc (L2 := [_, _, _]) (pc := 52) dX5_findLargests_52 rfl rfl (Nat.le_of_ble_eq_true rfl) (by unfold inI; omega) rfl ?_
                refine ex_goto (pc := 55) dX5_findLargests_55 (tgt := 18) (by decide) ?_
                exact ih2 (m + 1) h0 (by omega) (by omega) _ (prF_lt hlb (by omega)) (lgI_pair hI (by omega) (p40.mp (by omega)) (p29.mp (by omega)))
      refine ex_iload_n (pc := 10) dX5_findLargests_10 rfl ?_
      refine ex_bipush (pc := 11) dX5_findLargests_11 (by decide) ?_
      refine ex_icmp_ge (pc := 13) dX5_findLargests_13 (tgt := 64) (by decide) (fun c13 => ?_) (fun c13 => ?_)
      · exact ex_vret (pc := 64) dX5_findLargests_64 ⟨lb, hlb, by rw [show 14 = a by omega]; exact hI, rfl⟩ rfl (Nat.le_refl _)
      · refine ex_iconst (pc := 16) dX5_findLargests_16 (by decide) ?_
        refine ex_istore_n (L2 := [_, _, _]) (pc := 17) dX5_findLargests_17 rfl (Nat.le_of_ble_eq_true rfl) rfl ?_
        exact inner 15 0 (by omega) (by omega) (by omega) lb hlb hI
  refine ex_aload_n (pc := 0) dX5_findLargests_0 rfl ?_
  refine ex_getfield (pc := 1) dX5_findLargests_1 fk_X5_21 h_q (by rfl) ?_
  refine ex_iconst (pc := 4) dX5_findLargests_4 (by decide) ?_
  refine ex_callSV (as := [_, _]) (pc := 5) dX5_findLargests_5 (tJ7_fill_53178 h_A (by omega)) lk_X5_50 ykJ7_fill_53178 zkJ7_fill_53178 rfl rfl (Nat.le_of_ble_eq_true rfl) ⟨by decide, by decide⟩ ⟨Nat.le_refl _, Nat.le_refl _⟩ (fun w1 p5 => ?_)
  have e5 : w1 = va_up w (q + 4) (xA 897 (fun i => ((if i < 897 then 0 else lb i : Nat) : Int))) := by
    rw [p5]
    congr 2
    funext z
    by_cases y : z < 897 <;> simp [y]
  subst e5
  refine ex_iconst (pc := 8) dX5_findLargests_8 (by decide) ?_
  refine ex_istore_n (L2 := [_, _, _]) (pc := 9) dX5_findLargests_9 rfl (Nat.le_of_ble_eq_true rfl) rfl ?_
  exact outer 15 0 (by omega) (by omega) (fun i => if i < 897 then 0 else lb i) _ (fun k => by by_cases y : k < 897 <;> simp [y, hlb k]) (fun k hk b => by show ((if k < 897 then 0 else lb k).testBit b = true ↔ _); rw [if_pos hk]; simp)
end
