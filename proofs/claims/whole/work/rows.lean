section
-- ===== PART A: goes FIRST, ahead of the names: the tables' words, and 'selects' of the private methods out of them =====
/-- a private method of a class that the tables say can be made, by its rows of tables_1 -/
def lw_okq (q : MethodName × Nat) : Prop := (q.1.cls ≠ "java/lang/invoke/MethodHandle" ∧ q.1.cls ≠ "java/lang/invoke/VarHandle") ∧ Cond.instantiable q.1.cls q.2 ∈ tables_1 ∧ Cond.privateMethod q.1 ∈ tables_1 ∧ Cond.instanceMethod q.1 ∈ tables_1
theorem lw_p0 : lw_okq (⟨"ShiftedShapes$Piece", "insert", "(I)I"⟩, 3) := ⟨⟨by decide +kernel, by decide +kernel⟩, List.mem_of_getElem? (i := 40) (by decide +kernel), List.mem_of_getElem? (i := 186) (by decide +kernel), List.mem_of_getElem? (i := 187) (by decide +kernel)⟩
theorem lw_p1 : lw_okq (⟨"ShiftedShapes$Script", "append", "(I)Z"⟩, 3) := ⟨⟨by decide +kernel, by decide +kernel⟩, List.mem_of_getElem? (i := 22) (by decide +kernel), List.mem_of_getElem? (i := 234) (by decide +kernel), List.mem_of_getElem? (i := 235) (by decide +kernel)⟩
theorem lw_p2 : lw_okq (⟨"ShiftedShapes$Script", "readInto", "(LShiftedShapes$Piece;)I"⟩, 3) := ⟨⟨by decide +kernel, by decide +kernel⟩, List.mem_of_getElem? (i := 22) (by decide +kernel), List.mem_of_getElem? (i := 246) (by decide +kernel), List.mem_of_getElem? (i := 247) (by decide +kernel)⟩
theorem lw_p3 : lw_okq (⟨"ShiftedShapes$Script", "readItem", "(LShiftedShapes$Piece;)Z"⟩, 3) := ⟨⟨by decide +kernel, by decide +kernel⟩, List.mem_of_getElem? (i := 22) (by decide +kernel), List.mem_of_getElem? (i := 250) (by decide +kernel), List.mem_of_getElem? (i := 251) (by decide +kernel)⟩
theorem lw_p4 : lw_okq (⟨"ShiftedShapes$Script", "skip", "(I)Z"⟩, 3) := ⟨⟨by decide +kernel, by decide +kernel⟩, List.mem_of_getElem? (i := 22) (by decide +kernel), List.mem_of_getElem? (i := 254) (by decide +kernel), List.mem_of_getElem? (i := 255) (by decide +kernel)⟩
theorem lw_p5 : lw_okq (⟨"ShiftedShapes$Script", "readNote", "(LShiftedShapes$Piece;)Z"⟩, 3) := ⟨⟨by decide +kernel, by decide +kernel⟩, List.mem_of_getElem? (i := 22) (by decide +kernel), List.mem_of_getElem? (i := 258) (by decide +kernel), List.mem_of_getElem? (i := 259) (by decide +kernel)⟩
theorem lw_p6 : lw_okq (⟨"ShiftedShapes$Script", "readNumber", "()I"⟩, 3) := ⟨⟨by decide +kernel, by decide +kernel⟩, List.mem_of_getElem? (i := 22) (by decide +kernel), List.mem_of_getElem? (i := 262) (by decide +kernel), List.mem_of_getElem? (i := 263) (by decide +kernel)⟩
theorem lw_p7 : lw_okq (⟨"ShiftedShapes$Script", "isFigure", "()Z"⟩, 3) := ⟨⟨by decide +kernel, by decide +kernel⟩, List.mem_of_getElem? (i := 22) (by decide +kernel), List.mem_of_getElem? (i := 266) (by decide +kernel), List.mem_of_getElem? (i := 267) (by decide +kernel)⟩
theorem lw_p8 : lw_okq (⟨"ShiftedShapes$Piece", "numberOf", "(I)I"⟩, 3) := ⟨⟨by decide +kernel, by decide +kernel⟩, List.mem_of_getElem? (i := 40) (by decide +kernel), List.mem_of_getElem? (i := 275) (by decide +kernel), List.mem_of_getElem? (i := 276) (by decide +kernel)⟩
theorem lw_p9 : lw_okq (⟨"ShiftedShapes$Script", "readManner", "(LShiftedShapes$Piece;)Z"⟩, 3) := ⟨⟨by decide +kernel, by decide +kernel⟩, List.mem_of_getElem? (i := 22) (by decide +kernel), List.mem_of_getElem? (i := 280) (by decide +kernel), List.mem_of_getElem? (i := 281) (by decide +kernel)⟩
theorem lw_p10 : lw_okq (⟨"ShiftedShapes$Piece", "copyFrom", "(LShiftedShapes$Piece;)V"⟩, 3) := ⟨⟨by decide +kernel, by decide +kernel⟩, List.mem_of_getElem? (i := 40) (by decide +kernel), List.mem_of_getElem? (i := 288) (by decide +kernel), List.mem_of_getElem? (i := 289) (by decide +kernel)⟩
theorem lw_p11 : lw_okq (⟨"ShiftedShapes", "forgetFindings", "()V"⟩, 13) := ⟨⟨by decide +kernel, by decide +kernel⟩, List.mem_of_getElem? (i := 14) (by decide +kernel), List.mem_of_getElem? (i := 295) (by decide +kernel), List.mem_of_getElem? (i := 296) (by decide +kernel)⟩
theorem lw_p12 : lw_okq (⟨"ShiftedShapes", "isNote", "(I)Z"⟩, 13) := ⟨⟨by decide +kernel, by decide +kernel⟩, List.mem_of_getElem? (i := 14) (by decide +kernel), List.mem_of_getElem? (i := 303) (by decide +kernel), List.mem_of_getElem? (i := 304) (by decide +kernel)⟩
theorem lw_p13 : lw_okq (⟨"ShiftedShapes$Piece", "timeOf", "(I)I"⟩, 3) := ⟨⟨by decide +kernel, by decide +kernel⟩, List.mem_of_getElem? (i := 40) (by decide +kernel), List.mem_of_getElem? (i := 307) (by decide +kernel), List.mem_of_getElem? (i := 308) (by decide +kernel)⟩
theorem lw_p14 : lw_okq (⟨"ShiftedShapes$Piece", "pitchOf", "(I)I"⟩, 3) := ⟨⟨by decide +kernel, by decide +kernel⟩, List.mem_of_getElem? (i := 40) (by decide +kernel), List.mem_of_getElem? (i := 311) (by decide +kernel), List.mem_of_getElem? (i := 312) (by decide +kernel)⟩
theorem lw_p15 : lw_okq (⟨"ShiftedShapes", "beginAct", "()V"⟩, 13) := ⟨⟨by decide +kernel, by decide +kernel⟩, List.mem_of_getElem? (i := 14) (by decide +kernel), List.mem_of_getElem? (i := 321) (by decide +kernel), List.mem_of_getElem? (i := 322) (by decide +kernel)⟩
def lw_privs_1 : List (MethodName × Nat) := [(⟨"ShiftedShapes$Piece", "insert", "(I)I"⟩, 3), (⟨"ShiftedShapes$Script", "append", "(I)Z"⟩, 3), (⟨"ShiftedShapes$Script", "readInto", "(LShiftedShapes$Piece;)I"⟩, 3), (⟨"ShiftedShapes$Script", "readItem", "(LShiftedShapes$Piece;)Z"⟩, 3), (⟨"ShiftedShapes$Script", "skip", "(I)Z"⟩, 3), (⟨"ShiftedShapes$Script", "readNote", "(LShiftedShapes$Piece;)Z"⟩, 3), (⟨"ShiftedShapes$Script", "readNumber", "()I"⟩, 3), (⟨"ShiftedShapes$Script", "isFigure", "()Z"⟩, 3), (⟨"ShiftedShapes$Piece", "numberOf", "(I)I"⟩, 3), (⟨"ShiftedShapes$Script", "readManner", "(LShiftedShapes$Piece;)Z"⟩, 3), (⟨"ShiftedShapes$Piece", "copyFrom", "(LShiftedShapes$Piece;)V"⟩, 3), (⟨"ShiftedShapes", "forgetFindings", "()V"⟩, 13), (⟨"ShiftedShapes", "isNote", "(I)Z"⟩, 13), (⟨"ShiftedShapes$Piece", "timeOf", "(I)I"⟩, 3), (⟨"ShiftedShapes$Piece", "pitchOf", "(I)I"⟩, 3), (⟨"ShiftedShapes", "beginAct", "()V"⟩, 13)]
theorem lw_r1 : ∀ q ∈ lw_privs_1, lw_okq q := List.forall_mem_cons.mpr ⟨lw_p0, List.forall_mem_cons.mpr ⟨lw_p1, List.forall_mem_cons.mpr ⟨lw_p2, List.forall_mem_cons.mpr ⟨lw_p3, List.forall_mem_cons.mpr ⟨lw_p4, List.forall_mem_cons.mpr ⟨lw_p5, List.forall_mem_cons.mpr ⟨lw_p6, List.forall_mem_cons.mpr ⟨lw_p7, List.forall_mem_cons.mpr ⟨lw_p8, List.forall_mem_cons.mpr ⟨lw_p9, List.forall_mem_cons.mpr ⟨lw_p10, List.forall_mem_cons.mpr ⟨lw_p11, List.forall_mem_cons.mpr ⟨lw_p12, List.forall_mem_cons.mpr ⟨lw_p13, List.forall_mem_cons.mpr ⟨lw_p14, List.forall_mem_cons.mpr ⟨lw_p15, fun _ h => absurd h List.not_mem_nil⟩⟩⟩⟩⟩⟩⟩⟩⟩⟩⟩⟩⟩⟩⟩⟩
theorem lw_p16 : lw_okq (⟨"ShiftedShapes$Pile", "push", "(LShiftedShapes$Piece;)V"⟩, 2) := ⟨⟨by decide +kernel, by decide +kernel⟩, List.mem_of_getElem? (i := 62) (by decide +kernel), List.mem_of_getElem? (i := 325) (by decide +kernel), List.mem_of_getElem? (i := 326) (by decide +kernel)⟩
theorem lw_p17 : lw_okq (⟨"ShiftedShapes$Pile", "dropOldest", "()V"⟩, 2) := ⟨⟨by decide +kernel, by decide +kernel⟩, List.mem_of_getElem? (i := 62) (by decide +kernel), List.mem_of_getElem? (i := 329) (by decide +kernel), List.mem_of_getElem? (i := 330) (by decide +kernel)⟩
theorem lw_p18 : lw_okq (⟨"ShiftedShapes$Piece", "remove", "(I)V"⟩, 3) := ⟨⟨by decide +kernel, by decide +kernel⟩, List.mem_of_getElem? (i := 40) (by decide +kernel), List.mem_of_getElem? (i := 338) (by decide +kernel), List.mem_of_getElem? (i := 339) (by decide +kernel)⟩
theorem lw_p19 : lw_okq (⟨"ShiftedShapes", "isMove", "(II)Z"⟩, 13) := ⟨⟨by decide +kernel, by decide +kernel⟩, List.mem_of_getElem? (i := 14) (by decide +kernel), List.mem_of_getElem? (i := 346) (by decide +kernel), List.mem_of_getElem? (i := 347) (by decide +kernel)⟩
theorem lw_p20 : lw_okq (⟨"ShiftedShapes", "isShift", "(II)Z"⟩, 13) := ⟨⟨by decide +kernel, by decide +kernel⟩, List.mem_of_getElem? (i := 14) (by decide +kernel), List.mem_of_getElem? (i := 350) (by decide +kernel), List.mem_of_getElem? (i := 351) (by decide +kernel)⟩
theorem lw_p21 : lw_okq (⟨"ShiftedShapes", "staysWithin", "(III)Z"⟩, 13) := ⟨⟨by decide +kernel, by decide +kernel⟩, List.mem_of_getElem? (i := 14) (by decide +kernel), List.mem_of_getElem? (i := 354) (by decide +kernel), List.mem_of_getElem? (i := 355) (by decide +kernel)⟩
theorem lw_p22 : lw_okq (⟨"ShiftedShapes$Piece", "moveAll", "(I)V"⟩, 3) := ⟨⟨by decide +kernel, by decide +kernel⟩, List.mem_of_getElem? (i := 40) (by decide +kernel), List.mem_of_getElem? (i := 362) (by decide +kernel), List.mem_of_getElem? (i := 363) (by decide +kernel)⟩
theorem lw_p23 : lw_okq (⟨"ShiftedShapes$Pile", "popInto", "(LShiftedShapes$Piece;)V"⟩, 2) := ⟨⟨by decide +kernel, by decide +kernel⟩, List.mem_of_getElem? (i := 62) (by decide +kernel), List.mem_of_getElem? (i := 374) (by decide +kernel), List.mem_of_getElem? (i := 375) (by decide +kernel)⟩
theorem lw_p24 : lw_okq (⟨"ShiftedShapes", "wholeSearch", "()LShiftedShapes$Search;"⟩, 13) := ⟨⟨by decide +kernel, by decide +kernel⟩, List.mem_of_getElem? (i := 14) (by decide +kernel), List.mem_of_getElem? (i := 382) (by decide +kernel), List.mem_of_getElem? (i := 383) (by decide +kernel)⟩
theorem lw_p25 : lw_okq (⟨"ShiftedShapes$Piece", "allNotes", "()I"⟩, 3) := ⟨⟨by decide +kernel, by decide +kernel⟩, List.mem_of_getElem? (i := 40) (by decide +kernel), List.mem_of_getElem? (i := 386) (by decide +kernel), List.mem_of_getElem? (i := 387) (by decide +kernel)⟩
theorem lw_p26 : lw_okq (⟨"ShiftedShapes$Search", "lookOver", "(LShiftedShapes$Piece;I)V"⟩, 12) := ⟨⟨by decide +kernel, by decide +kernel⟩, List.mem_of_getElem? (i := 82) (by decide +kernel), List.mem_of_getElem? (i := 390) (by decide +kernel), List.mem_of_getElem? (i := 391) (by decide +kernel)⟩
theorem lw_p27 : lw_okq (⟨"ShiftedShapes$Search", "findLargests", "()V"⟩, 12) := ⟨⟨by decide +kernel, by decide +kernel⟩, List.mem_of_getElem? (i := 82) (by decide +kernel), List.mem_of_getElem? (i := 404) (by decide +kernel), List.mem_of_getElem? (i := 405) (by decide +kernel)⟩
theorem lw_p28 : lw_okq (⟨"ShiftedShapes$Search", "enterPair", "(II)V"⟩, 12) := ⟨⟨by decide +kernel, by decide +kernel⟩, List.mem_of_getElem? (i := 82) (by decide +kernel), List.mem_of_getElem? (i := 408) (by decide +kernel), List.mem_of_getElem? (i := 409) (by decide +kernel)⟩
theorem lw_p29 : lw_okq (⟨"ShiftedShapes$Search", "enter", "(III)V"⟩, 12) := ⟨⟨by decide +kernel, by decide +kernel⟩, List.mem_of_getElem? (i := 82) (by decide +kernel), List.mem_of_getElem? (i := 415) (by decide +kernel), List.mem_of_getElem? (i := 416) (by decide +kernel)⟩
theorem lw_p30 : lw_okq (⟨"ShiftedShapes$Search", "findWideShifts", "()V"⟩, 12) := ⟨⟨by decide +kernel, by decide +kernel⟩, List.mem_of_getElem? (i := 82) (by decide +kernel), List.mem_of_getElem? (i := 425) (by decide +kernel), List.mem_of_getElem? (i := 426) (by decide +kernel)⟩
theorem lw_p31 : lw_okq (⟨"ShiftedShapes$Search", "findShapes", "()V"⟩, 12) := ⟨⟨by decide +kernel, by decide +kernel⟩, List.mem_of_getElem? (i := 82) (by decide +kernel), List.mem_of_getElem? (i := 432) (by decide +kernel), List.mem_of_getElem? (i := 433) (by decide +kernel)⟩
def lw_privs_2 : List (MethodName × Nat) := [(⟨"ShiftedShapes$Pile", "push", "(LShiftedShapes$Piece;)V"⟩, 2), (⟨"ShiftedShapes$Pile", "dropOldest", "()V"⟩, 2), (⟨"ShiftedShapes$Piece", "remove", "(I)V"⟩, 3), (⟨"ShiftedShapes", "isMove", "(II)Z"⟩, 13), (⟨"ShiftedShapes", "isShift", "(II)Z"⟩, 13), (⟨"ShiftedShapes", "staysWithin", "(III)Z"⟩, 13), (⟨"ShiftedShapes$Piece", "moveAll", "(I)V"⟩, 3), (⟨"ShiftedShapes$Pile", "popInto", "(LShiftedShapes$Piece;)V"⟩, 2), (⟨"ShiftedShapes", "wholeSearch", "()LShiftedShapes$Search;"⟩, 13), (⟨"ShiftedShapes$Piece", "allNotes", "()I"⟩, 3), (⟨"ShiftedShapes$Search", "lookOver", "(LShiftedShapes$Piece;I)V"⟩, 12), (⟨"ShiftedShapes$Search", "findLargests", "()V"⟩, 12), (⟨"ShiftedShapes$Search", "enterPair", "(II)V"⟩, 12), (⟨"ShiftedShapes$Search", "enter", "(III)V"⟩, 12), (⟨"ShiftedShapes$Search", "findWideShifts", "()V"⟩, 12), (⟨"ShiftedShapes$Search", "findShapes", "()V"⟩, 12)]
theorem lw_r2 : ∀ q ∈ lw_privs_2, lw_okq q := List.forall_mem_cons.mpr ⟨lw_p16, List.forall_mem_cons.mpr ⟨lw_p17, List.forall_mem_cons.mpr ⟨lw_p18, List.forall_mem_cons.mpr ⟨lw_p19, List.forall_mem_cons.mpr ⟨lw_p20, List.forall_mem_cons.mpr ⟨lw_p21, List.forall_mem_cons.mpr ⟨lw_p22, List.forall_mem_cons.mpr ⟨lw_p23, List.forall_mem_cons.mpr ⟨lw_p24, List.forall_mem_cons.mpr ⟨lw_p25, List.forall_mem_cons.mpr ⟨lw_p26, List.forall_mem_cons.mpr ⟨lw_p27, List.forall_mem_cons.mpr ⟨lw_p28, List.forall_mem_cons.mpr ⟨lw_p29, List.forall_mem_cons.mpr ⟨lw_p30, List.forall_mem_cons.mpr ⟨lw_p31, fun _ h => absurd h List.not_mem_nil⟩⟩⟩⟩⟩⟩⟩⟩⟩⟩⟩⟩⟩⟩⟩⟩
theorem lw_p32 : lw_okq (⟨"ShiftedShapes$Search", "isShape", "(I)Z"⟩, 12) := ⟨⟨by decide +kernel, by decide +kernel⟩, List.mem_of_getElem? (i := 82) (by decide +kernel), List.mem_of_getElem? (i := 436) (by decide +kernel), List.mem_of_getElem? (i := 437) (by decide +kernel)⟩
theorem lw_p33 : lw_okq (⟨"ShiftedShapes$Search", "measureShape", "(I)V"⟩, 12) := ⟨⟨by decide +kernel, by decide +kernel⟩, List.mem_of_getElem? (i := 82) (by decide +kernel), List.mem_of_getElem? (i := 440) (by decide +kernel), List.mem_of_getElem? (i := 441) (by decide +kernel)⟩
theorem lw_p34 : lw_okq (⟨"ShiftedShapes$Search", "met", "(III)I"⟩, 12) := ⟨⟨by decide +kernel, by decide +kernel⟩, List.mem_of_getElem? (i := 82) (by decide +kernel), List.mem_of_getElem? (i := 450) (by decide +kernel), List.mem_of_getElem? (i := 451) (by decide +kernel)⟩
theorem lw_p35 : lw_okq (⟨"ShiftedShapes$Search", "numberAt", "(II)I"⟩, 12) := ⟨⟨by decide +kernel, by decide +kernel⟩, List.mem_of_getElem? (i := 82) (by decide +kernel), List.mem_of_getElem? (i := 454) (by decide +kernel), List.mem_of_getElem? (i := 455) (by decide +kernel)⟩
theorem lw_p36 : lw_okq (⟨"ShiftedShapes$Search", "largestOf", "(II)I"⟩, 12) := ⟨⟨by decide +kernel, by decide +kernel⟩, List.mem_of_getElem? (i := 82) (by decide +kernel), List.mem_of_getElem? (i := 458) (by decide +kernel), List.mem_of_getElem? (i := 459) (by decide +kernel)⟩
theorem lw_p37 : lw_okq (⟨"ShiftedShapes$Search", "gainOf", "(I)I"⟩, 12) := ⟨⟨by decide +kernel, by decide +kernel⟩, List.mem_of_getElem? (i := 82) (by decide +kernel), List.mem_of_getElem? (i := 471) (by decide +kernel), List.mem_of_getElem? (i := 472) (by decide +kernel)⟩
theorem lw_p38 : lw_okq (⟨"ShiftedShapes$Search", "placesOf", "(I)I"⟩, 12) := ⟨⟨by decide +kernel, by decide +kernel⟩, List.mem_of_getElem? (i := 82) (by decide +kernel), List.mem_of_getElem? (i := 485) (by decide +kernel), List.mem_of_getElem? (i := 486) (by decide +kernel)⟩
theorem lw_p39 : lw_okq (⟨"ShiftedShapes$Search", "placeOf", "(II)I"⟩, 12) := ⟨⟨by decide +kernel, by decide +kernel⟩, List.mem_of_getElem? (i := 82) (by decide +kernel), List.mem_of_getElem? (i := 489) (by decide +kernel), List.mem_of_getElem? (i := 490) (by decide +kernel)⟩
theorem lw_p40 : lw_okq (⟨"ShiftedShapes$Search", "bestShape", "()I"⟩, 12) := ⟨⟨by decide +kernel, by decide +kernel⟩, List.mem_of_getElem? (i := 82) (by decide +kernel), List.mem_of_getElem? (i := 497) (by decide +kernel), List.mem_of_getElem? (i := 498) (by decide +kernel)⟩
theorem lw_p41 : lw_okq (⟨"ShiftedShapes$Search", "isBetter", "(II)Z"⟩, 12) := ⟨⟨by decide +kernel, by decide +kernel⟩, List.mem_of_getElem? (i := 82) (by decide +kernel), List.mem_of_getElem? (i := 501) (by decide +kernel), List.mem_of_getElem? (i := 502) (by decide +kernel)⟩
theorem lw_p42 : lw_okq (⟨"ShiftedShapes$Parting", "takeApart", "(LShiftedShapes$Piece;LShiftedShapes$Search;)V"⟩, 6) := ⟨⟨by decide +kernel, by decide +kernel⟩, List.mem_of_getElem? (i := 135) (by decide +kernel), List.mem_of_getElem? (i := 510) (by decide +kernel), List.mem_of_getElem? (i := 511) (by decide +kernel)⟩
theorem lw_p43 : lw_okq (⟨"ShiftedShapes$Parting", "setAside", "(LShiftedShapes$Search;I)V"⟩, 6) := ⟨⟨by decide +kernel, by decide +kernel⟩, List.mem_of_getElem? (i := 135) (by decide +kernel), List.mem_of_getElem? (i := 518) (by decide +kernel), List.mem_of_getElem? (i := 519) (by decide +kernel)⟩
theorem lw_p44 : lw_okq (⟨"ShiftedShapes$Covering", "fewestOf", "(LShiftedShapes$Search;)I"⟩, 2) := ⟨⟨by decide +kernel, by decide +kernel⟩, List.mem_of_getElem? (i := 166) (by decide +kernel), List.mem_of_getElem? (i := 531) (by decide +kernel), List.mem_of_getElem? (i := 532) (by decide +kernel)⟩
theorem lw_p45 : lw_okq (⟨"ShiftedShapes$Covering", "gather", "(LShiftedShapes$Search;)V"⟩, 2) := ⟨⟨by decide +kernel, by decide +kernel⟩, List.mem_of_getElem? (i := 166) (by decide +kernel), List.mem_of_getElem? (i := 535) (by decide +kernel), List.mem_of_getElem? (i := 536) (by decide +kernel)⟩
theorem lw_p46 : lw_okq (⟨"ShiftedShapes$Search", "covered", "()I"⟩, 12) := ⟨⟨by decide +kernel, by decide +kernel⟩, List.mem_of_getElem? (i := 82) (by decide +kernel), List.mem_of_getElem? (i := 542) (by decide +kernel), List.mem_of_getElem? (i := 543) (by decide +kernel)⟩
theorem lw_p47 : lw_okq (⟨"ShiftedShapes", "findBetter", "()V"⟩, 13) := ⟨⟨by decide +kernel, by decide +kernel⟩, List.mem_of_getElem? (i := 14) (by decide +kernel), List.mem_of_getElem? (i := 560) (by decide +kernel), List.mem_of_getElem? (i := 561) (by decide +kernel)⟩
def lw_privs_3 : List (MethodName × Nat) := [(⟨"ShiftedShapes$Search", "isShape", "(I)Z"⟩, 12), (⟨"ShiftedShapes$Search", "measureShape", "(I)V"⟩, 12), (⟨"ShiftedShapes$Search", "met", "(III)I"⟩, 12), (⟨"ShiftedShapes$Search", "numberAt", "(II)I"⟩, 12), (⟨"ShiftedShapes$Search", "largestOf", "(II)I"⟩, 12), (⟨"ShiftedShapes$Search", "gainOf", "(I)I"⟩, 12), (⟨"ShiftedShapes$Search", "placesOf", "(I)I"⟩, 12), (⟨"ShiftedShapes$Search", "placeOf", "(II)I"⟩, 12), (⟨"ShiftedShapes$Search", "bestShape", "()I"⟩, 12), (⟨"ShiftedShapes$Search", "isBetter", "(II)Z"⟩, 12), (⟨"ShiftedShapes$Parting", "takeApart", "(LShiftedShapes$Piece;LShiftedShapes$Search;)V"⟩, 6), (⟨"ShiftedShapes$Parting", "setAside", "(LShiftedShapes$Search;I)V"⟩, 6), (⟨"ShiftedShapes$Covering", "fewestOf", "(LShiftedShapes$Search;)I"⟩, 2), (⟨"ShiftedShapes$Covering", "gather", "(LShiftedShapes$Search;)V"⟩, 2), (⟨"ShiftedShapes$Search", "covered", "()I"⟩, 12), (⟨"ShiftedShapes", "findBetter", "()V"⟩, 13)]
theorem lw_r3 : ∀ q ∈ lw_privs_3, lw_okq q := List.forall_mem_cons.mpr ⟨lw_p32, List.forall_mem_cons.mpr ⟨lw_p33, List.forall_mem_cons.mpr ⟨lw_p34, List.forall_mem_cons.mpr ⟨lw_p35, List.forall_mem_cons.mpr ⟨lw_p36, List.forall_mem_cons.mpr ⟨lw_p37, List.forall_mem_cons.mpr ⟨lw_p38, List.forall_mem_cons.mpr ⟨lw_p39, List.forall_mem_cons.mpr ⟨lw_p40, List.forall_mem_cons.mpr ⟨lw_p41, List.forall_mem_cons.mpr ⟨lw_p42, List.forall_mem_cons.mpr ⟨lw_p43, List.forall_mem_cons.mpr ⟨lw_p44, List.forall_mem_cons.mpr ⟨lw_p45, List.forall_mem_cons.mpr ⟨lw_p46, List.forall_mem_cons.mpr ⟨lw_p47, fun _ h => absurd h List.not_mem_nil⟩⟩⟩⟩⟩⟩⟩⟩⟩⟩⟩⟩⟩⟩⟩⟩
theorem lw_p48 : lw_okq (⟨"ShiftedShapes", "drawOnce", "(II)V"⟩, 13) := ⟨⟨by decide +kernel, by decide +kernel⟩, List.mem_of_getElem? (i := 14) (by decide +kernel), List.mem_of_getElem? (i := 568) (by decide +kernel), List.mem_of_getElem? (i := 569) (by decide +kernel)⟩
theorem lw_p49 : lw_okq (⟨"ShiftedShapesModel", "begins", "()V"⟩, 27) := ⟨⟨by decide +kernel, by decide +kernel⟩, List.mem_of_getElem? (i := 587) (by decide +kernel), List.mem_of_getElem? (i := 593) (by decide +kernel), List.mem_of_getElem? (i := 594) (by decide +kernel)⟩
theorem lw_p50 : lw_okq (⟨"ShiftedShapesModel", "reading", "()I"⟩, 27) := ⟨⟨by decide +kernel, by decide +kernel⟩, List.mem_of_getElem? (i := 587) (by decide +kernel), List.mem_of_getElem? (i := 700) (by decide +kernel), List.mem_of_getElem? (i := 701) (by decide +kernel)⟩
theorem lw_p51 : lw_okq (⟨"ShiftedShapesModel", "readsItem", "()Z"⟩, 27) := ⟨⟨by decide +kernel, by decide +kernel⟩, List.mem_of_getElem? (i := 587) (by decide +kernel), List.mem_of_getElem? (i := 704) (by decide +kernel), List.mem_of_getElem? (i := 705) (by decide +kernel)⟩
theorem lw_p52 : lw_okq (⟨"ShiftedShapesModel", "here", "()I"⟩, 27) := ⟨⟨by decide +kernel, by decide +kernel⟩, List.mem_of_getElem? (i := 587) (by decide +kernel), List.mem_of_getElem? (i := 708) (by decide +kernel), List.mem_of_getElem? (i := 709) (by decide +kernel)⟩
theorem lw_p53 : lw_okq (⟨"ShiftedShapesModel", "number", "(II)I"⟩, 27) := ⟨⟨by decide +kernel, by decide +kernel⟩, List.mem_of_getElem? (i := 587) (by decide +kernel), List.mem_of_getElem? (i := 712) (by decide +kernel), List.mem_of_getElem? (i := 713) (by decide +kernel)⟩
theorem lw_p54 : lw_okq (⟨"ShiftedShapesModel", "isNote", "(I)Z"⟩, 27) := ⟨⟨by decide +kernel, by decide +kernel⟩, List.mem_of_getElem? (i := 587) (by decide +kernel), List.mem_of_getElem? (i := 727) (by decide +kernel), List.mem_of_getElem? (i := 728) (by decide +kernel)⟩
theorem lw_p55 : lw_okq (⟨"ShiftedShapesModel", "notes", "()V"⟩, 27) := ⟨⟨by decide +kernel, by decide +kernel⟩, List.mem_of_getElem? (i := 587) (by decide +kernel), List.mem_of_getElem? (i := 738) (by decide +kernel), List.mem_of_getElem? (i := 739) (by decide +kernel)⟩
theorem lw_p56 : lw_okq (⟨"ShiftedShapesModel", "isShift", "(II)Z"⟩, 27) := ⟨⟨by decide +kernel, by decide +kernel⟩, List.mem_of_getElem? (i := 587) (by decide +kernel), List.mem_of_getElem? (i := 753) (by decide +kernel), List.mem_of_getElem? (i := 754) (by decide +kernel)⟩
theorem lw_p57 : lw_okq (⟨"ShiftedShapesModel", "lays", "([II)V"⟩, 27) := ⟨⟨by decide +kernel, by decide +kernel⟩, List.mem_of_getElem? (i := 587) (by decide +kernel), List.mem_of_getElem? (i := 776) (by decide +kernel), List.mem_of_getElem? (i := 777) (by decide +kernel)⟩
theorem lw_p58 : lw_okq (⟨"ShiftedShapesModel", "firstPitch", "()I"⟩, 27) := ⟨⟨by decide +kernel, by decide +kernel⟩, List.mem_of_getElem? (i := 587) (by decide +kernel), List.mem_of_getElem? (i := 783) (by decide +kernel), List.mem_of_getElem? (i := 784) (by decide +kernel)⟩
theorem lw_p59 : lw_okq (⟨"ShiftedShapesModel", "metBy", "([IIII)I"⟩, 27) := ⟨⟨by decide +kernel, by decide +kernel⟩, List.mem_of_getElem? (i := 587) (by decide +kernel), List.mem_of_getElem? (i := 787) (by decide +kernel), List.mem_of_getElem? (i := 788) (by decide +kernel)⟩
theorem lw_p60 : lw_okq (⟨"ShiftedShapesModel", "standsAt", "(II)I"⟩, 27) := ⟨⟨by decide +kernel, by decide +kernel⟩, List.mem_of_getElem? (i := 587) (by decide +kernel), List.mem_of_getElem? (i := 791) (by decide +kernel), List.mem_of_getElem? (i := 792) (by decide +kernel)⟩
theorem lw_p61 : lw_okq (⟨"ShiftedShapesModel", "findsShapes", "([II)V"⟩, 27) := ⟨⟨by decide +kernel, by decide +kernel⟩, List.mem_of_getElem? (i := 587) (by decide +kernel), List.mem_of_getElem? (i := 803) (by decide +kernel), List.mem_of_getElem? (i := 804) (by decide +kernel)⟩
theorem lw_p62 : lw_okq (⟨"ShiftedShapesModel", "isNew", "(I)Z"⟩, 27) := ⟨⟨by decide +kernel, by decide +kernel⟩, List.mem_of_getElem? (i := 587) (by decide +kernel), List.mem_of_getElem? (i := 810) (by decide +kernel), List.mem_of_getElem? (i := 811) (by decide +kernel)⟩
theorem lw_p63 : lw_okq (⟨"ShiftedShapesModel", "looksAt", "([II)V"⟩, 27) := ⟨⟨by decide +kernel, by decide +kernel⟩, List.mem_of_getElem? (i := 587) (by decide +kernel), List.mem_of_getElem? (i := 814) (by decide +kernel), List.mem_of_getElem? (i := 815) (by decide +kernel)⟩
def lw_privs_4 : List (MethodName × Nat) := [(⟨"ShiftedShapes", "drawOnce", "(II)V"⟩, 13), (⟨"ShiftedShapesModel", "begins", "()V"⟩, 27), (⟨"ShiftedShapesModel", "reading", "()I"⟩, 27), (⟨"ShiftedShapesModel", "readsItem", "()Z"⟩, 27), (⟨"ShiftedShapesModel", "here", "()I"⟩, 27), (⟨"ShiftedShapesModel", "number", "(II)I"⟩, 27), (⟨"ShiftedShapesModel", "isNote", "(I)Z"⟩, 27), (⟨"ShiftedShapesModel", "notes", "()V"⟩, 27), (⟨"ShiftedShapesModel", "isShift", "(II)Z"⟩, 27), (⟨"ShiftedShapesModel", "lays", "([II)V"⟩, 27), (⟨"ShiftedShapesModel", "firstPitch", "()I"⟩, 27), (⟨"ShiftedShapesModel", "metBy", "([IIII)I"⟩, 27), (⟨"ShiftedShapesModel", "standsAt", "(II)I"⟩, 27), (⟨"ShiftedShapesModel", "findsShapes", "([II)V"⟩, 27), (⟨"ShiftedShapesModel", "isNew", "(I)Z"⟩, 27), (⟨"ShiftedShapesModel", "looksAt", "([II)V"⟩, 27)]
theorem lw_r4 : ∀ q ∈ lw_privs_4, lw_okq q := List.forall_mem_cons.mpr ⟨lw_p48, List.forall_mem_cons.mpr ⟨lw_p49, List.forall_mem_cons.mpr ⟨lw_p50, List.forall_mem_cons.mpr ⟨lw_p51, List.forall_mem_cons.mpr ⟨lw_p52, List.forall_mem_cons.mpr ⟨lw_p53, List.forall_mem_cons.mpr ⟨lw_p54, List.forall_mem_cons.mpr ⟨lw_p55, List.forall_mem_cons.mpr ⟨lw_p56, List.forall_mem_cons.mpr ⟨lw_p57, List.forall_mem_cons.mpr ⟨lw_p58, List.forall_mem_cons.mpr ⟨lw_p59, List.forall_mem_cons.mpr ⟨lw_p60, List.forall_mem_cons.mpr ⟨lw_p61, List.forall_mem_cons.mpr ⟨lw_p62, List.forall_mem_cons.mpr ⟨lw_p63, fun _ h => absurd h List.not_mem_nil⟩⟩⟩⟩⟩⟩⟩⟩⟩⟩⟩⟩⟩⟩⟩⟩
theorem lw_p64 : lw_okq (⟨"ShiftedShapesModel", "gainOf", "(I)I"⟩, 27) := ⟨⟨by decide +kernel, by decide +kernel⟩, List.mem_of_getElem? (i := 587) (by decide +kernel), List.mem_of_getElem? (i := 818) (by decide +kernel), List.mem_of_getElem? (i := 819) (by decide +kernel)⟩
theorem lw_p65 : lw_okq (⟨"ShiftedShapesModel", "findsBest", "([II)V"⟩, 27) := ⟨⟨by decide +kernel, by decide +kernel⟩, List.mem_of_getElem? (i := 587) (by decide +kernel), List.mem_of_getElem? (i := 830) (by decide +kernel), List.mem_of_getElem? (i := 831) (by decide +kernel)⟩
theorem lw_p66 : lw_okq (⟨"ShiftedShapesModel", "isParted", "([I)V"⟩, 27) := ⟨⟨by decide +kernel, by decide +kernel⟩, List.mem_of_getElem? (i := 587) (by decide +kernel), List.mem_of_getElem? (i := 838) (by decide +kernel), List.mem_of_getElem? (i := 839) (by decide +kernel)⟩
theorem lw_p67 : lw_okq (⟨"ShiftedShapesModel", "fewest", "(I)I"⟩, 27) := ⟨⟨by decide +kernel, by decide +kernel⟩, List.mem_of_getElem? (i := 587) (by decide +kernel), List.mem_of_getElem? (i := 850) (by decide +kernel), List.mem_of_getElem? (i := 851) (by decide +kernel)⟩
theorem lw_p68 : lw_okq (⟨"ShiftedShapesModel", "happens", "(I)V"⟩, 27) := ⟨⟨by decide +kernel, by decide +kernel⟩, List.mem_of_getElem? (i := 587) (by decide +kernel), List.mem_of_getElem? (i := 869) (by decide +kernel), List.mem_of_getElem? (i := 870) (by decide +kernel)⟩
def lw_privs_5 : List (MethodName × Nat) := [(⟨"ShiftedShapesModel", "gainOf", "(I)I"⟩, 27), (⟨"ShiftedShapesModel", "findsBest", "([II)V"⟩, 27), (⟨"ShiftedShapesModel", "isParted", "([I)V"⟩, 27), (⟨"ShiftedShapesModel", "fewest", "(I)I"⟩, 27), (⟨"ShiftedShapesModel", "happens", "(I)V"⟩, 27)]
theorem lw_r5 : ∀ q ∈ lw_privs_5, lw_okq q := List.forall_mem_cons.mpr ⟨lw_p64, List.forall_mem_cons.mpr ⟨lw_p65, List.forall_mem_cons.mpr ⟨lw_p66, List.forall_mem_cons.mpr ⟨lw_p67, List.forall_mem_cons.mpr ⟨lw_p68, fun _ h => absurd h List.not_mem_nil⟩⟩⟩⟩⟩
def lw_privs : List (MethodName × Nat) := lw_privs_1 ++ (lw_privs_2 ++ (lw_privs_3 ++ (lw_privs_4 ++ (lw_privs_5))))
def lw_tbl : List Cond := k2_sels lw_privs ++ tables_1
theorem lw_privs_ok : ∀ q ∈ lw_privs, lw_okq q := by
  show ∀ q ∈ lw_privs_1 ++ (lw_privs_2 ++ (lw_privs_3 ++ (lw_privs_4 ++ (lw_privs_5)))), lw_okq q
  exact List.forall_mem_append.mpr ⟨lw_r1, List.forall_mem_append.mpr ⟨lw_r2, List.forall_mem_append.mpr ⟨lw_r3, List.forall_mem_append.mpr ⟨lw_r4, lw_r5⟩⟩⟩⟩
end
section
def RX0 : String := "ShiftedShapes$Covering"
def TX0 : u_T := fun k => match k with
  | 0 => ("ShiftedShapes$Covering", "covers", "[I", true)
  | _ => ("ShiftedShapes$Covering", "size", "I", false)
def tyX0 : Nat → FieldType := fun k => match k with
  | 0 => .array .int
  | _ => .int
abbrev wsX00 : List Cond := u_ws RX0 TX0 2
theorem nmX0 : ∀ a, a < 2 → ∀ b, b < 2 → a ≠ b → (TX0 a).2.1 ≠ (TX0 b).2.1 := by decide +kernel
theorem tyX0_ok : ∀ k, k < 2 → parseFieldDescriptor (TX0 k).2.2.1 = some (tyX0 k) := by decide +kernel
abbrev cX0_init : ByteArray := prog_2_method_1_code
def yX0_init : MethodName := ⟨RX0, "<init>", "()V"⟩
abbrev cX0_fewestOf : ByteArray := prog_2_method_2_code
def yX0_fewestOf : MethodName := ⟨RX0, "fewestOf", "(LShiftedShapes$Search;)I"⟩
abbrev cX0_gather : ByteArray := prog_2_method_3_code
def yX0_gather : MethodName := ⟨RX0, "gather", "(LShiftedShapes$Search;)V"⟩
abbrev cX0_isWithinAnother : ByteArray := prog_2_method_4_code
def yX0_isWithinAnother : MethodName := ⟨RX0, "isWithinAnother", "(LShiftedShapes$Search;I)Z"⟩
abbrev cX0_isReached : ByteArray := prog_2_method_5_code
def yX0_isReached : MethodName := ⟨RX0, "isReached", "([IIII)Z"⟩
def RX1 : String := "ShiftedShapes$Parting"
def TX1 : u_T := fun k => match k with
  | 0 => ("ShiftedShapes$Parting", "sets", "[I", true)
  | 1 => ("ShiftedShapes$Parting", "places", "[I", true)
  | 2 => ("ShiftedShapes$Parting", "covers", "[I", true)
  | 3 => ("ShiftedShapes$Parting", "size", "I", false)
  | 4 => ("ShiftedShapes$Parting", "rest", "I", false)
  | _ => ("ShiftedShapes$Parting", "price", "I", false)
def tyX1 : Nat → FieldType := fun k => match k with
  | 0 => .array .int
  | 1 => .array .int
  | 2 => .array .int
  | 3 => .int
  | 4 => .int
  | _ => .int
abbrev wsX10 : List Cond := u_ws RX1 TX1 6
theorem nmX1 : ∀ a, a < 6 → ∀ b, b < 6 → a ≠ b → (TX1 a).2.1 ≠ (TX1 b).2.1 := by decide +kernel
theorem tyX1_ok : ∀ k, k < 6 → parseFieldDescriptor (TX1 k).2.2.1 = some (tyX1 k) := by decide +kernel
abbrev cX1_init : ByteArray := prog_3_method_1_code
def yX1_init : MethodName := ⟨RX1, "<init>", "()V"⟩
abbrev cX1_takeApart : ByteArray := prog_3_method_2_code
def yX1_takeApart : MethodName := ⟨RX1, "takeApart", "(LShiftedShapes$Piece;LShiftedShapes$Search;)V"⟩
abbrev cX1_setAside : ByteArray := prog_3_method_3_code
def yX1_setAside : MethodName := ⟨RX1, "setAside", "(LShiftedShapes$Search;I)V"⟩
def RX2 : String := "ShiftedShapes$Piece"
def TX2 : u_T := fun k => match k with
  | 0 => ("ShiftedShapes$Piece", "codes", "[I", true)
  | 1 => ("ShiftedShapes$Piece", "size", "I", false)
  | _ => ("ShiftedShapes$Piece", "manner", "I", false)
def tyX2 : Nat → FieldType := fun k => match k with
  | 0 => .array .int
  | 1 => .int
  | _ => .int
abbrev wsX20 : List Cond := u_ws RX2 TX2 3
theorem nmX2 : ∀ a, a < 3 → ∀ b, b < 3 → a ≠ b → (TX2 a).2.1 ≠ (TX2 b).2.1 := by decide +kernel
theorem tyX2_ok : ∀ k, k < 3 → parseFieldDescriptor (TX2 k).2.2.1 = some (tyX2 k) := by decide +kernel
abbrev cX2_init : ByteArray := prog_4_method_1_code
def yX2_init : MethodName := ⟨RX2, "<init>", "()V"⟩
abbrev cX2_timeOf : ByteArray := prog_4_method_2_code
def yX2_timeOf : MethodName := ⟨RX2, "timeOf", "(I)I"⟩
abbrev cX2_pitchOf : ByteArray := prog_4_method_3_code
def yX2_pitchOf : MethodName := ⟨RX2, "pitchOf", "(I)I"⟩
abbrev cX2_allNotes : ByteArray := prog_4_method_4_code
def yX2_allNotes : MethodName := ⟨RX2, "allNotes", "()I"⟩
abbrev cX2_numberOf : ByteArray := prog_4_method_5_code
def yX2_numberOf : MethodName := ⟨RX2, "numberOf", "(I)I"⟩
abbrev cX2_insert : ByteArray := prog_4_method_6_code
def yX2_insert : MethodName := ⟨RX2, "insert", "(I)I"⟩
abbrev cX2_remove : ByteArray := prog_4_method_7_code
def yX2_remove : MethodName := ⟨RX2, "remove", "(I)V"⟩
abbrev cX2_moveAll : ByteArray := prog_4_method_8_code
def yX2_moveAll : MethodName := ⟨RX2, "moveAll", "(I)V"⟩
abbrev cX2_copyFrom : ByteArray := prog_4_method_9_code
def yX2_copyFrom : MethodName := ⟨RX2, "copyFrom", "(LShiftedShapes$Piece;)V"⟩
def RX3 : String := "ShiftedShapes$Pile"
def TX3 : u_T := fun k => match k with
  | 0 => ("ShiftedShapes$Pile", "pieces", "[LShiftedShapes$Piece;", true)
  | _ => ("ShiftedShapes$Pile", "size", "I", false)
def tyX3 : Nat → FieldType := fun k => match k with
  | 0 => .array (.object "ShiftedShapes$Piece")
  | _ => .int
abbrev wsX30 : List Cond := u_ws RX3 TX3 2
theorem nmX3 : ∀ a, a < 2 → ∀ b, b < 2 → a ≠ b → (TX3 a).2.1 ≠ (TX3 b).2.1 := by decide +kernel
theorem tyX3_ok : ∀ k, k < 2 → parseFieldDescriptor (TX3 k).2.2.1 = some (tyX3 k) := by decide +kernel
abbrev cX3_init : ByteArray := prog_5_method_1_code
def yX3_init : MethodName := ⟨RX3, "<init>", "(I)V"⟩
abbrev cX3_push : ByteArray := prog_5_method_2_code
def yX3_push : MethodName := ⟨RX3, "push", "(LShiftedShapes$Piece;)V"⟩
abbrev cX3_popInto : ByteArray := prog_5_method_3_code
def yX3_popInto : MethodName := ⟨RX3, "popInto", "(LShiftedShapes$Piece;)V"⟩
abbrev cX3_dropOldest : ByteArray := prog_5_method_4_code
def yX3_dropOldest : MethodName := ⟨RX3, "dropOldest", "()V"⟩
def RX4 : String := "ShiftedShapes$Script"
def TX4 : u_T := fun k => match k with
  | 0 => ("ShiftedShapes$Script", "letters", "[I", true)
  | 1 => ("ShiftedShapes$Script", "length", "I", false)
  | _ => ("ShiftedShapes$Script", "at", "I", false)
def tyX4 : Nat → FieldType := fun k => match k with
  | 0 => .array .int
  | 1 => .int
  | _ => .int
abbrev wsX40 : List Cond := u_ws RX4 TX4 3
theorem nmX4 : ∀ a, a < 3 → ∀ b, b < 3 → a ≠ b → (TX4 a).2.1 ≠ (TX4 b).2.1 := by decide +kernel
theorem tyX4_ok : ∀ k, k < 3 → parseFieldDescriptor (TX4 k).2.2.1 = some (tyX4 k) := by decide +kernel
abbrev cX4_init : ByteArray := prog_6_method_1_code
def yX4_init : MethodName := ⟨RX4, "<init>", "()V"⟩
abbrev cX4_append : ByteArray := prog_6_method_2_code
def yX4_append : MethodName := ⟨RX4, "append", "(I)Z"⟩
abbrev cX4_readInto : ByteArray := prog_6_method_3_code
def yX4_readInto : MethodName := ⟨RX4, "readInto", "(LShiftedShapes$Piece;)I"⟩
abbrev cX4_readItem : ByteArray := prog_6_method_4_code
def yX4_readItem : MethodName := ⟨RX4, "readItem", "(LShiftedShapes$Piece;)Z"⟩
abbrev cX4_readNote : ByteArray := prog_6_method_5_code
def yX4_readNote : MethodName := ⟨RX4, "readNote", "(LShiftedShapes$Piece;)Z"⟩
abbrev cX4_readManner : ByteArray := prog_6_method_6_code
def yX4_readManner : MethodName := ⟨RX4, "readManner", "(LShiftedShapes$Piece;)Z"⟩
abbrev cX4_readNumber : ByteArray := prog_6_method_7_code
def yX4_readNumber : MethodName := ⟨RX4, "readNumber", "()I"⟩
abbrev cX4_isFigure : ByteArray := prog_6_method_8_code
def yX4_isFigure : MethodName := ⟨RX4, "isFigure", "()Z"⟩
abbrev cX4_skip : ByteArray := prog_6_method_9_code
def yX4_skip : MethodName := ⟨RX4, "skip", "(I)Z"⟩
def RX5 : String := "ShiftedShapes$Search"
def TX5 : u_T := fun k => match k with
  | 0 => ("ShiftedShapes$Search", "times", "[I", true)
  | 1 => ("ShiftedShapes$Search", "pitches", "[I", true)
  | 2 => ("ShiftedShapes$Search", "numbers", "[I", true)
  | 3 => ("ShiftedShapes$Search", "largests", "[I", true)
  | 4 => ("ShiftedShapes$Search", "wideShifts", "[I", true)
  | 5 => ("ShiftedShapes$Search", "wideCount", "I", false)
  | 6 => ("ShiftedShapes$Search", "manner", "I", false)
  | 7 => ("ShiftedShapes$Search", "present", "I", false)
  | 8 => ("ShiftedShapes$Search", "shapeSets", "[I", true)
  | 9 => ("ShiftedShapes$Search", "shapePlaces", "[I", true)
  | 10 => ("ShiftedShapes$Search", "shapeCovers", "[I", true)
  | _ => ("ShiftedShapes$Search", "shapeCount", "I", false)
def tyX5 : Nat → FieldType := fun k => match k with
  | 0 => .array .int
  | 1 => .array .int
  | 2 => .array .int
  | 3 => .array .int
  | 4 => .array .int
  | 5 => .int
  | 6 => .int
  | 7 => .int
  | 8 => .array .int
  | 9 => .array .int
  | 10 => .array .int
  | _ => .int
abbrev wsX50 : List Cond := u_ws RX5 TX5 12
theorem nmX5 : ∀ a, a < 12 → ∀ b, b < 12 → a ≠ b → (TX5 a).2.1 ≠ (TX5 b).2.1 := by decide +kernel
theorem tyX5_ok : ∀ k, k < 12 → parseFieldDescriptor (TX5 k).2.2.1 = some (tyX5 k) := by decide +kernel
abbrev cX5_init : ByteArray := prog_7_method_1_code
def yX5_init : MethodName := ⟨RX5, "<init>", "()V"⟩
abbrev cX5_lookOver : ByteArray := prog_7_method_2_code
def yX5_lookOver : MethodName := ⟨RX5, "lookOver", "(LShiftedShapes$Piece;I)V"⟩
abbrev cX5_has : ByteArray := prog_7_method_3_code
def yX5_has : MethodName := ⟨RX5, "has", "(II)Z"⟩
abbrev cX5_hasTwo : ByteArray := prog_7_method_4_code
def yX5_hasTwo : MethodName := ⟨RX5, "hasTwo", "(I)Z"⟩
abbrev cX5_shiftOf : ByteArray := prog_7_method_5_code
def yX5_shiftOf : MethodName := ⟨RX5, "shiftOf", "(II)I"⟩
abbrev cX5_timePart : ByteArray := prog_7_method_6_code
def yX5_timePart : MethodName := ⟨RX5, "timePart", "(I)I"⟩
abbrev cX5_pitchPart : ByteArray := prog_7_method_7_code
def yX5_pitchPart : MethodName := ⟨RX5, "pitchPart", "(I)I"⟩
abbrev cX5_findLargests : ByteArray := prog_7_method_8_code
def yX5_findLargests : MethodName := ⟨RX5, "findLargests", "()V"⟩
abbrev cX5_enterPair : ByteArray := prog_7_method_9_code
def yX5_enterPair : MethodName := ⟨RX5, "enterPair", "(II)V"⟩
abbrev cX5_enter : ByteArray := prog_7_method_10_code
def yX5_enter : MethodName := ⟨RX5, "enter", "(III)V"⟩
abbrev cX5_isHeld : ByteArray := prog_7_method_11_code
def yX5_isHeld : MethodName := ⟨RX5, "isHeld", "(II)Z"⟩
abbrev cX5_findWideShifts : ByteArray := prog_7_method_12_code
def yX5_findWideShifts : MethodName := ⟨RX5, "findWideShifts", "()V"⟩
abbrev cX5_findShapes : ByteArray := prog_7_method_13_code
def yX5_findShapes : MethodName := ⟨RX5, "findShapes", "()V"⟩
abbrev cX5_isShape : ByteArray := prog_7_method_14_code
def yX5_isShape : MethodName := ⟨RX5, "isShape", "(I)Z"⟩
abbrev cX5_measureShape : ByteArray := prog_7_method_15_code
def yX5_measureShape : MethodName := ⟨RX5, "measureShape", "(I)V"⟩
abbrev cX5_met : ByteArray := prog_7_method_16_code
def yX5_met : MethodName := ⟨RX5, "met", "(III)I"⟩
abbrev cX5_numberAt : ByteArray := prog_7_method_17_code
def yX5_numberAt : MethodName := ⟨RX5, "numberAt", "(II)I"⟩
abbrev cX5_largestOf : ByteArray := prog_7_method_18_code
def yX5_largestOf : MethodName := ⟨RX5, "largestOf", "(II)I"⟩
abbrev cX5_placesOf : ByteArray := prog_7_method_19_code
def yX5_placesOf : MethodName := ⟨RX5, "placesOf", "(I)I"⟩
abbrev cX5_placeOf : ByteArray := prog_7_method_20_code
def yX5_placeOf : MethodName := ⟨RX5, "placeOf", "(II)I"⟩
abbrev cX5_gainOf : ByteArray := prog_7_method_21_code
def yX5_gainOf : MethodName := ⟨RX5, "gainOf", "(I)I"⟩
abbrev cX5_bestShape : ByteArray := prog_7_method_22_code
def yX5_bestShape : MethodName := ⟨RX5, "bestShape", "()I"⟩
abbrev cX5_isBetter : ByteArray := prog_7_method_23_code
def yX5_isBetter : MethodName := ⟨RX5, "isBetter", "(II)Z"⟩
abbrev cX5_covered : ByteArray := prog_7_method_24_code
def yX5_covered : MethodName := ⟨RX5, "covered", "()I"⟩
def RX6 : String := "ShiftedShapes"
def TX6 : u_T := fun k => match k with
  | 0 => ("ShiftedShapes", "script", "LShiftedShapes$Script;", true)
  | 1 => ("ShiftedShapes", "piece", "LShiftedShapes$Piece;", true)
  | 2 => ("ShiftedShapes", "trial", "LShiftedShapes$Piece;", true)
  | 3 => ("ShiftedShapes", "undoable", "LShiftedShapes$Pile;", true)
  | 4 => ("ShiftedShapes", "kept", "LShiftedShapes$Pile;", true)
  | 5 => ("ShiftedShapes", "whole", "LShiftedShapes$Search;", true)
  | 6 => ("ShiftedShapes", "scratch", "LShiftedShapes$Search;", true)
  | 7 => ("ShiftedShapes", "parts", "LShiftedShapes$Parting;", true)
  | 8 => ("ShiftedShapes", "covering", "LShiftedShapes$Covering;", true)
  | 9 => ("ShiftedShapes", "wholeKnown", "Z", false)
  | 10 => ("ShiftedShapes", "betterKnown", "Z", false)
  | 11 => ("ShiftedShapes", "betterCode", "I", false)
  | _ => ("ShiftedShapes", "betterGain", "I", false)
def tyX6 : Nat → FieldType := fun k => match k with
  | 0 => .object "ShiftedShapes$Script"
  | 1 => .object "ShiftedShapes$Piece"
  | 2 => .object "ShiftedShapes$Piece"
  | 3 => .object "ShiftedShapes$Pile"
  | 4 => .object "ShiftedShapes$Pile"
  | 5 => .object "ShiftedShapes$Search"
  | 6 => .object "ShiftedShapes$Search"
  | 7 => .object "ShiftedShapes$Parting"
  | 8 => .object "ShiftedShapes$Covering"
  | 9 => .boolean
  | 10 => .boolean
  | 11 => .int
  | _ => .int
abbrev wsX60 : List Cond := u_ws RX6 TX6 13
theorem nmX6 : ∀ a, a < 13 → ∀ b, b < 13 → a ≠ b → (TX6 a).2.1 ≠ (TX6 b).2.1 := by decide +kernel
theorem tyX6_ok : ∀ k, k < 13 → parseFieldDescriptor (TX6 k).2.2.1 = some (tyX6 k) := by decide +kernel
abbrev cX6_init : ByteArray := prog_1_method_1_code
def yX6_init : MethodName := ⟨RX6, "<init>", "()V"⟩
abbrev cX6_write : ByteArray := prog_1_method_2_code
def yX6_write : MethodName := ⟨RX6, "write", "(I)I"⟩
abbrev cX6_wipe : ByteArray := prog_1_method_3_code
def yX6_wipe : MethodName := ⟨RX6, "wipe", "()I"⟩
abbrev cX6_fault : ByteArray := prog_1_method_4_code
def yX6_fault : MethodName := ⟨RX6, "fault", "()I"⟩
abbrev cX6_lay : ByteArray := prog_1_method_5_code
def yX6_lay : MethodName := ⟨RX6, "lay", "()I"⟩
abbrev cX6_note : ByteArray := prog_1_method_6_code
def yX6_note : MethodName := ⟨RX6, "note", "(II)I"⟩
abbrev cX6_put : ByteArray := prog_1_method_7_code
def yX6_put : MethodName := ⟨RX6, "put", "(II)I"⟩
abbrev cX6_take : ByteArray := prog_1_method_8_code
def yX6_take : MethodName := ⟨RX6, "take", "(I)I"⟩
abbrev cX6_shift : ByteArray := prog_1_method_9_code
def yX6_shift : MethodName := ⟨RX6, "shift", "(III)I"⟩
abbrev cX6_shiftAll : ByteArray := prog_1_method_10_code
def yX6_shiftAll : MethodName := ⟨RX6, "shiftAll", "(II)I"⟩
abbrev cX6_mode : ByteArray := prog_1_method_11_code
def yX6_mode : MethodName := ⟨RX6, "mode", "(I)I"⟩
abbrev cX6_undo : ByteArray := prog_1_method_12_code
def yX6_undo : MethodName := ⟨RX6, "undo", "()I"⟩
abbrev cX6_largest : ByteArray := prog_1_method_13_code
def yX6_largest : MethodName := ⟨RX6, "largest", "(II)I"⟩
abbrev cX6_meets : ByteArray := prog_1_method_14_code
def yX6_meets : MethodName := ⟨RX6, "meets", "(III)I"⟩
abbrev cX6_shape : ByteArray := prog_1_method_15_code
def yX6_shape : MethodName := ⟨RX6, "shape", "(II)I"⟩
abbrev cX6_place : ByteArray := prog_1_method_16_code
def yX6_place : MethodName := ⟨RX6, "place", "(II)I"⟩
abbrev cX6_best : ByteArray := prog_1_method_17_code
def yX6_best : MethodName := ⟨RX6, "best", "(I)I"⟩
abbrev cX6_parted : ByteArray := prog_1_method_18_code
def yX6_parted : MethodName := ⟨RX6, "parted", "(II)I"⟩
abbrev cX6_parting : ByteArray := prog_1_method_19_code
def yX6_parting : MethodName := ⟨RX6, "parting", "(I)I"⟩
abbrev cX6_shapes : ByteArray := prog_1_method_20_code
def yX6_shapes : MethodName := ⟨RX6, "shapes", "(I)I"⟩
abbrev cX6_link : ByteArray := prog_1_method_21_code
def yX6_link : MethodName := ⟨RX6, "link", "(III)I"⟩
abbrev cX6_better : ByteArray := prog_1_method_22_code
def yX6_better : MethodName := ⟨RX6, "better", "(I)I"⟩
abbrev cX6_day : ByteArray := prog_1_method_23_code
def yX6_day : MethodName := ⟨RX6, "day", "(III)I"⟩
abbrev cX6_keep : ByteArray := prog_1_method_24_code
def yX6_keep : MethodName := ⟨RX6, "keep", "()I"⟩
abbrev cX6_back : ByteArray := prog_1_method_25_code
def yX6_back : MethodName := ⟨RX6, "back", "()I"⟩
abbrev cX6_count : ByteArray := prog_1_method_26_code
def yX6_count : MethodName := ⟨RX6, "count", "(I)I"⟩
abbrev cX6_beginAct : ByteArray := prog_1_method_27_code
def yX6_beginAct : MethodName := ⟨RX6, "beginAct", "()V"⟩
abbrev cX6_forgetFindings : ByteArray := prog_1_method_28_code
def yX6_forgetFindings : MethodName := ⟨RX6, "forgetFindings", "()V"⟩
abbrev cX6_wholeSearch : ByteArray := prog_1_method_29_code
def yX6_wholeSearch : MethodName := ⟨RX6, "wholeSearch", "()LShiftedShapes$Search;"⟩
abbrev cX6_findBetter : ByteArray := prog_1_method_30_code
def yX6_findBetter : MethodName := ⟨RX6, "findBetter", "()V"⟩
abbrev cX6_drawOnce : ByteArray := prog_1_method_31_code
def yX6_drawOnce : MethodName := ⟨RX6, "drawOnce", "(II)V"⟩
abbrev cX6_isNote : ByteArray := prog_1_method_32_code
def yX6_isNote : MethodName := ⟨RX6, "isNote", "(I)Z"⟩
abbrev cX6_isShift : ByteArray := prog_1_method_33_code
def yX6_isShift : MethodName := ⟨RX6, "isShift", "(II)Z"⟩
abbrev cX6_isMove : ByteArray := prog_1_method_34_code
def yX6_isMove : MethodName := ⟨RX6, "isMove", "(II)Z"⟩
abbrev cX6_staysWithin : ByteArray := prog_1_method_35_code
def yX6_staysWithin : MethodName := ⟨RX6, "staysWithin", "(III)Z"⟩
abbrev cX6_isWithin : ByteArray := prog_1_method_36_code
def yX6_isWithin : MethodName := ⟨RX6, "isWithin", "(II)Z"⟩
abbrev cX6_codeOf : ByteArray := prog_1_method_37_code
def yX6_codeOf : MethodName := ⟨RX6, "codeOf", "(II)I"⟩
def RX7 : String := "ShiftedShapesModel"
def TX7 : u_T := fun k => match k with
  | 0 => ("ShiftedShapesModel", "now", "[I", true)
  | 1 => ("ShiftedShapesModel", "read", "[I", true)
  | 2 => ("ShiftedShapesModel", "aside", "[I", true)
  | 3 => ("ShiftedShapesModel", "past", "[I", true)
  | 4 => ("ShiftedShapesModel", "undos", "I", false)
  | 5 => ("ShiftedShapesModel", "kept", "[I", true)
  | 6 => ("ShiftedShapesModel", "keeps", "I", false)
  | 7 => ("ShiftedShapesModel", "text", "[I", true)
  | 8 => ("ShiftedShapesModel", "length", "I", false)
  | 9 => ("ShiftedShapesModel", "place", "I", false)
  | 10 => ("ShiftedShapesModel", "at", "[I", true)
  | 11 => ("ShiftedShapesModel", "largest", "[I", true)
  | 12 => ("ShiftedShapesModel", "modeNow", "I", false)
  | 13 => ("ShiftedShapesModel", "places", "I", false)
  | 14 => ("ShiftedShapesModel", "cover", "I", false)
  | 15 => ("ShiftedShapesModel", "shapes", "I", false)
  | 16 => ("ShiftedShapesModel", "shape", "[I", true)
  | 17 => ("ShiftedShapesModel", "best", "I", false)
  | 18 => ("ShiftedShapesModel", "bestGain", "I", false)
  | 19 => ("ShiftedShapesModel", "bestCover", "I", false)
  | 20 => ("ShiftedShapesModel", "bestPlaces", "I", false)
  | 21 => ("ShiftedShapesModel", "parts", "I", false)
  | 22 => ("ShiftedShapesModel", "part", "[I", true)
  | 23 => ("ShiftedShapesModel", "rest", "I", false)
  | 24 => ("ShiftedShapesModel", "price", "I", false)
  | 25 => ("ShiftedShapesModel", "few", "[I", true)
  | _ => ("ShiftedShapesModel", "covers", "[I", true)
def tyX7 : Nat → FieldType := fun k => match k with
  | 0 => .array .int
  | 1 => .array .int
  | 2 => .array .int
  | 3 => .array .int
  | 4 => .int
  | 5 => .array .int
  | 6 => .int
  | 7 => .array .int
  | 8 => .int
  | 9 => .int
  | 10 => .array .int
  | 11 => .array .int
  | 12 => .int
  | 13 => .int
  | 14 => .int
  | 15 => .int
  | 16 => .array .int
  | 17 => .int
  | 18 => .int
  | 19 => .int
  | 20 => .int
  | 21 => .int
  | 22 => .array .int
  | 23 => .int
  | 24 => .int
  | 25 => .array .int
  | _ => .array .int
abbrev wsX70 : List Cond := u_ws RX7 TX7 27
theorem nmX7 : ∀ a, a < 27 → ∀ b, b < 27 → a ≠ b → (TX7 a).2.1 ≠ (TX7 b).2.1 := by decide +kernel
theorem tyX7_ok : ∀ k, k < 27 → parseFieldDescriptor (TX7 k).2.2.1 = some (tyX7 k) := by decide +kernel
abbrev cX7_init : ByteArray := prog_9_method_1_code
def yX7_init : MethodName := ⟨RX7, "<init>", "()V"⟩
abbrev cX7_begins : ByteArray := prog_9_method_2_code
def yX7_begins : MethodName := ⟨RX7, "begins", "()V"⟩
abbrev cX7_in : ByteArray := prog_9_method_4_code
def yX7_in : MethodName := ⟨RX7, "in", "(III)Z"⟩
abbrev cX7_has : ByteArray := prog_9_method_5_code
def yX7_has : MethodName := ⟨RX7, "has", "(II)Z"⟩
abbrev cX7_bits : ByteArray := prog_9_method_6_code
def yX7_bits : MethodName := ⟨RX7, "bits", "(I)I"⟩
abbrev cX7_copies : ByteArray := prog_9_method_7_code
def yX7_copies : MethodName := ⟨RX7, "copies", "([II[II)V"⟩
abbrev cX7_numberOf : ByteArray := prog_9_method_8_code
def yX7_numberOf : MethodName := ⟨RX7, "numberOf", "([III)I"⟩
abbrev cX7_puts : ByteArray := prog_9_method_9_code
def yX7_puts : MethodName := ⟨RX7, "puts", "([III)I"⟩
abbrev cX7_leaves : ByteArray := prog_9_method_10_code
def yX7_leaves : MethodName := ⟨RX7, "leaves", "([II)V"⟩
abbrev cX7_here : ByteArray := prog_9_method_11_code
def yX7_here : MethodName := ⟨RX7, "here", "()I"⟩
abbrev cX7_number : ByteArray := prog_9_method_12_code
def yX7_number : MethodName := ⟨RX7, "number", "(II)I"⟩
abbrev cX7_readsItem : ByteArray := prog_9_method_13_code
def yX7_readsItem : MethodName := ⟨RX7, "readsItem", "()Z"⟩
abbrev cX7_reading : ByteArray := prog_9_method_14_code
def yX7_reading : MethodName := ⟨RX7, "reading", "()I"⟩
abbrev cX7_write : ByteArray := prog_9_method_15_code
def yX7_write : MethodName := ⟨RX7, "write", "(I)I"⟩
abbrev cX7_wipe : ByteArray := prog_9_method_16_code
def yX7_wipe : MethodName := ⟨RX7, "wipe", "()I"⟩
abbrev cX7_fault : ByteArray := prog_9_method_17_code
def yX7_fault : MethodName := ⟨RX7, "fault", "()I"⟩
abbrev cX7_lay : ByteArray := prog_9_method_18_code
def yX7_lay : MethodName := ⟨RX7, "lay", "()I"⟩
abbrev cX7_isNote : ByteArray := prog_9_method_19_code
def yX7_isNote : MethodName := ⟨RX7, "isNote", "(I)Z"⟩
abbrev cX7_note : ByteArray := prog_9_method_20_code
def yX7_note : MethodName := ⟨RX7, "note", "(II)I"⟩
abbrev cX7_notes : ByteArray := prog_9_method_21_code
def yX7_notes : MethodName := ⟨RX7, "notes", "()V"⟩
abbrev cX7_isThere : ByteArray := prog_9_method_22_code
def yX7_isThere : MethodName := ⟨RX7, "isThere", "(II)Z"⟩
abbrev cX7_put : ByteArray := prog_9_method_23_code
def yX7_put : MethodName := ⟨RX7, "put", "(II)I"⟩
abbrev cX7_take : ByteArray := prog_9_method_24_code
def yX7_take : MethodName := ⟨RX7, "take", "(I)I"⟩
abbrev cX7_isShift : ByteArray := prog_9_method_25_code
def yX7_isShift : MethodName := ⟨RX7, "isShift", "(II)Z"⟩
abbrev cX7_shift : ByteArray := prog_9_method_26_code
def yX7_shift : MethodName := ⟨RX7, "shift", "(III)I"⟩
abbrev cX7_shiftAll : ByteArray := prog_9_method_27_code
def yX7_shiftAll : MethodName := ⟨RX7, "shiftAll", "(II)I"⟩
abbrev cX7_mode : ByteArray := prog_9_method_28_code
def yX7_mode : MethodName := ⟨RX7, "mode", "(I)I"⟩
abbrev cX7_undo : ByteArray := prog_9_method_29_code
def yX7_undo : MethodName := ⟨RX7, "undo", "()I"⟩
abbrev cX7_standsAt : ByteArray := prog_9_method_30_code
def yX7_standsAt : MethodName := ⟨RX7, "standsAt", "(II)I"⟩
abbrev cX7_metBy : ByteArray := prog_9_method_31_code
def yX7_metBy : MethodName := ⟨RX7, "metBy", "([IIII)I"⟩
abbrev cX7_firstPitch : ByteArray := prog_9_method_32_code
def yX7_firstPitch : MethodName := ⟨RX7, "firstPitch", "()I"⟩
abbrev cX7_lays : ByteArray := prog_9_method_33_code
def yX7_lays : MethodName := ⟨RX7, "lays", "([II)V"⟩
abbrev cX7_looksAt : ByteArray := prog_9_method_34_code
def yX7_looksAt : MethodName := ⟨RX7, "looksAt", "([II)V"⟩
abbrev cX7_gainOf : ByteArray := prog_9_method_35_code
def yX7_gainOf : MethodName := ⟨RX7, "gainOf", "(I)I"⟩
abbrev cX7_isNew : ByteArray := prog_9_method_36_code
def yX7_isNew : MethodName := ⟨RX7, "isNew", "(I)Z"⟩
abbrev cX7_findsShapes : ByteArray := prog_9_method_37_code
def yX7_findsShapes : MethodName := ⟨RX7, "findsShapes", "([II)V"⟩
abbrev cX7_findsBest : ByteArray := prog_9_method_38_code
def yX7_findsBest : MethodName := ⟨RX7, "findsBest", "([II)V"⟩
abbrev cX7_allOf : ByteArray := prog_9_method_39_code
def yX7_allOf : MethodName := ⟨RX7, "allOf", "([I)I"⟩
abbrev cX7_largest : ByteArray := prog_9_method_40_code
def yX7_largest : MethodName := ⟨RX7, "largest", "(II)I"⟩
abbrev cX7_meets : ByteArray := prog_9_method_41_code
def yX7_meets : MethodName := ⟨RX7, "meets", "(III)I"⟩
abbrev cX7_shape : ByteArray := prog_9_method_42_code
def yX7_shape : MethodName := ⟨RX7, "shape", "(II)I"⟩
abbrev cX7_place : ByteArray := prog_9_method_43_code
def yX7_place : MethodName := ⟨RX7, "place", "(II)I"⟩
abbrev cX7_best : ByteArray := prog_9_method_44_code
def yX7_best : MethodName := ⟨RX7, "best", "(I)I"⟩
abbrev cX7_isParted : ByteArray := prog_9_method_45_code
def yX7_isParted : MethodName := ⟨RX7, "isParted", "([I)V"⟩
abbrev cX7_parted : ByteArray := prog_9_method_46_code
def yX7_parted : MethodName := ⟨RX7, "parted", "(II)I"⟩
abbrev cX7_parting : ByteArray := prog_9_method_47_code
def yX7_parting : MethodName := ⟨RX7, "parting", "(I)I"⟩
abbrev cX7_fewest : ByteArray := prog_9_method_48_code
def yX7_fewest : MethodName := ⟨RX7, "fewest", "(I)I"⟩
abbrev cX7_shapes : ByteArray := prog_9_method_49_code
def yX7_shapes : MethodName := ⟨RX7, "shapes", "(I)I"⟩
abbrev cX7_link : ByteArray := prog_9_method_50_code
def yX7_link : MethodName := ⟨RX7, "link", "(III)I"⟩
abbrev cX7_better : ByteArray := prog_9_method_51_code
def yX7_better : MethodName := ⟨RX7, "better", "(I)I"⟩
abbrev cX7_happens : ByteArray := prog_9_method_52_code
def yX7_happens : MethodName := ⟨RX7, "happens", "(I)V"⟩
abbrev cX7_day : ByteArray := prog_9_method_53_code
def yX7_day : MethodName := ⟨RX7, "day", "(III)I"⟩
abbrev cX7_keep : ByteArray := prog_9_method_54_code
def yX7_keep : MethodName := ⟨RX7, "keep", "()I"⟩
abbrev cX7_back : ByteArray := prog_9_method_55_code
def yX7_back : MethodName := ⟨RX7, "back", "()I"⟩
abbrev cX7_count : ByteArray := prog_9_method_56_code
def yX7_count : MethodName := ⟨RX7, "count", "(I)I"⟩
def RJ6 : String := "java/lang/Integer"
def TJ6 : u_T := fun k => match k with
  | _ => ("", "", "", false)
def tyJ6 : Nat → FieldType := fun k => match k with
  | _ => .int
abbrev wsJ60 : List Cond := u_ws RJ6 TJ6 0
theorem nmJ6 : ∀ a, a < 0 → ∀ b, b < 0 → a ≠ b → (TJ6 a).2.1 ≠ (TJ6 b).2.1 := by decide +kernel
theorem tyJ6_ok : ∀ k, k < 0 → parseFieldDescriptor (TJ6 k).2.2.1 = some (tyJ6 k) := by decide +kernel
abbrev cJ6_bitCount_0f7a4 : ByteArray := prog_10_method_49_code
def yJ6_bitCount_0f7a4 : MethodName := ⟨RJ6, "bitCount", "(I)I"⟩
def RJ9 : String := "java/lang/Math"
def TJ9 : u_T := fun k => match k with
  | _ => ("", "", "", false)
def tyJ9 : Nat → FieldType := fun k => match k with
  | _ => .int
abbrev wsJ90 : List Cond := u_ws RJ9 TJ9 0
theorem nmJ9 : ∀ a, a < 0 → ∀ b, b < 0 → a ≠ b → (TJ9 a).2.1 ≠ (TJ9 b).2.1 := by decide +kernel
theorem tyJ9_ok : ∀ k, k < 0 → parseFieldDescriptor (TJ9 k).2.2.1 = some (tyJ9 k) := by decide +kernel
abbrev cJ9_floorMod_7cf53 : ByteArray := prog_11_method_50_code
def yJ9_floorMod_7cf53 : MethodName := ⟨RJ9, "floorMod", "(II)I"⟩
abbrev cJ9_max_7cf53 : ByteArray := prog_11_method_65_code
def yJ9_max_7cf53 : MethodName := ⟨RJ9, "max", "(II)I"⟩
def RJ10 : String := "java/lang/System"
def TJ10 : u_T := fun k => match k with
  | _ => ("", "", "", false)
def tyJ10 : Nat → FieldType := fun k => match k with
  | _ => .int
abbrev wsJ100 : List Cond := u_ws RJ10 TJ10 0
theorem nmJ10 : ∀ a, a < 0 → ∀ b, b < 0 → a ≠ b → (TJ10 a).2.1 ≠ (TJ10 b).2.1 := by decide +kernel
theorem tyJ10_ok : ∀ k, k < 0 → parseFieldDescriptor (TJ10 k).2.2.1 = some (tyJ10 k) := by decide +kernel
def RJ7 : String := "java/util/Arrays"
def TJ7 : u_T := fun k => match k with
  | _ => ("", "", "", false)
def tyJ7 : Nat → FieldType := fun k => match k with
  | _ => .int
abbrev wsJ70 : List Cond := u_ws RJ7 TJ7 0
theorem nmJ7 : ∀ a, a < 0 → ∀ b, b < 0 → a ≠ b → (TJ7 a).2.1 ≠ (TJ7 b).2.1 := by decide +kernel
theorem tyJ7_ok : ∀ k, k < 0 → parseFieldDescriptor (TJ7 k).2.2.1 = some (tyJ7 k) := by decide +kernel
abbrev cJ7_fill_53178 : ByteArray := prog_13_method_103_code
def yJ7_fill_53178 : MethodName := ⟨RJ7, "fill", "([II)V"⟩
def RL : String := "ShiftedShapesLaw"
abbrev cL_law : ByteArray := code
def yL_law : MethodName := ⟨RL, "law", "([I)Z"⟩
abbrev vwCl : List vw_C := [(RX0, TX0, 2), (RX1, TX1, 6), (RX2, TX2, 3), (RX3, TX3, 2), (RX4, TX4, 3), (RX5, TX5, 12), (RX6, TX6, 13), (RX7, TX7, 27)]
end
section
/-! ===== a small machine of whole numbers over the kit's rows: values, cells, worlds ===== -/
abbrev xV : Type := Int ⊕ (Option Nat ⊕ (Int ⊕ Nat))
abbrev xi (i : Int) : xV := .inl i
abbrev xr (k : Nat) : xV := .inr (.inl (some k))
abbrev xn : xV := .inr (.inl none)
abbrev xl (j : Int) : xV := .inr (.inr (.inl j))
abbrev xo (a : Nat) : xV := .inr (.inr (.inr a))
def rv (B : Nat) (v : xV) : Value := match v with
  | .inl i => .int (Int32.ofInt i)
  | .inr (.inl none) => .null
  | .inr (.inl (some k)) => .ref (B + k)
  | .inr (.inr (.inl j)) => .long (Int64.ofInt j)
  | .inr (.inr (.inr a)) => .ref a
def xcat (v : xV) : Nat := match v with
  | .inr (.inr (.inl _)) => 2
  | _ => 1
theorem rv_cat (B : Nat) (v : xV) : (rv B v).category = xcat v := by
  rcases v with i | (_ | k) | j | a <;> rfl
def inI (i : Int) : Prop := -2147483648 ≤ i ∧ i ≤ 2147483647
def inJ (i : Int) : Prop := -9223372036854775808 ≤ i ∧ i ≤ 9223372036854775807
def inV (v : xV) : Prop := match v with
  | .inl i => inI i
  | .inr (.inr (.inl j)) => inJ j
  | _ => True
abbrev xE : Type := (Nat × ((Nat → Int) ⊕ (Nat → Option Nat))) ⊕ (Nat × List xV)
abbrev xA (n : Nat) (f : Nat → Int) : xE := .inl (n, .inl f)
abbrev xQ (n : Nat) (g : Nat → Option Nat) : xE := .inl (n, .inr g)
abbrev xO (ci : Nat) (fs : List xV) : xE := .inr (ci, fs)
abbrev xW : Type := Nat → xE
def rE (B : Nat) (cA : ClassId) (e : xE) : va_E := match e with
  | .inl (n, .inl f) => .inl (cA, n, .inl (fun j => Int32.ofInt (f j)))
  | .inl (n, .inr g) => .inl (cA, n, .inr (.inr (.inr (.inr (fun j => (g j).map (fun k => B + k))))))
  | .inr (ci, fs) => .inr (ci, fs.map (rv B))
def wsOf (B : Nat) (ka : Nat → ClassId) (n : Nat) (w : xW) : va_W := (List.range n).map (fun k => (B + k, rE B (ka k) (w k)))
def eOK (s : State) (cA : ClassId) (e : xE) : Prop := match e with
  | .inl (_, .inl f) => (ArrOfT s cA .int ∧ va_RA s cA .int) ∧ ∀ j, inI (f j)
  | .inl (_, .inr _) => ArrOfT s cA (.object RX2) ∧ va_RA s cA (.object RX2)
  | .inr (_, fs) => ∀ v ∈ fs, inV v
def xZ : xE := xO 99 []
def Rel (B : Nat) (D : va_G) (s : State) (n : Nat) (w : xW) (H : Heap) : Prop :=
  H.size = B + n ∧ (∀ k, n ≤ k → w k = xZ) ∧ ∃ ka : Nat → ClassId, va_P D vwCl (wsOf B ka n w) H ∧ ∀ k, k < n → eOK s (ka k) (w k)
theorem wsOf_get {B : Nat} {ka : Nat → ClassId} {n : Nat} {w : xW} {k : Nat} (h : k < n) : (wsOf B ka n w)[k]? = some (B + k, rE B (ka k) (w k)) := by
  unfold wsOf
  rw [List.getElem?_map, List.getElem?_range h]
  rfl
theorem wsOf_len {B : Nat} {ka : Nat → ClassId} {n : Nat} {w : xW} : (wsOf B ka n w).length = n := by simp [wsOf]
theorem wsOf_at {B : Nat} {ka : Nat → ClassId} {n : Nat} {w : xW} {k : Nat} {q : Nat × va_E} (h : (wsOf B ka n w)[k]? = some q) : k < n ∧ q = (B + k, rE B (ka k) (w k)) := by
  have hk : k < n := by
    have := (List.getElem?_eq_some_iff.mp h).1
    rwa [wsOf_len] at this
  rw [wsOf_get hk] at h
  exact ⟨hk, (Option.some.inj h).symm⟩
theorem wsOf_D {B : Nat} {ka : Nat → ClassId} {n : Nat} {w : xW} : va_D (fun q => B ≤ q) (wsOf B ka n w) := by
  refine ⟨fun i j p q h1 h2 e => ?_, fun k q h => ?_⟩
  · obtain ⟨-, rfl⟩ := wsOf_at h1
    obtain ⟨-, rfl⟩ := wsOf_at h2
    have e : B + i = B + j := e
    omega
  · obtain ⟨-, rfl⟩ := wsOf_at h
    show B ≤ B + k
    omega
theorem wsOf_set {B : Nat} {ka : Nat → ClassId} {n : Nat} {w : xW} {k : Nat} {e : xE} (h : k < n) : (wsOf B ka n w).set k (B + k, rE B (ka k) e) = wsOf B ka n (va_up w k e) := by
  apply List.ext_getElem?
  intro i
  by_cases hi : i < n
  · rw [wsOf_get hi, List.getElem?_set]
    by_cases hk : k = i
    · subst hk
      rw [if_pos rfl, if_pos (by rw [wsOf_len]; exact h)]
      simp [va_up]
    · rw [if_neg hk, wsOf_get hi]
      simp [va_up, Ne.symm hk]
  · rw [List.getElem?_eq_none (by rw [List.length_set, wsOf_len]; omega), List.getElem?_eq_none (by rw [wsOf_len]; omega)]
theorem Rel.lt {B : Nat} {D : va_G} {s : State} {n : Nat} {w : xW} {H : Heap} (h : Rel B D s n w H) {k : Nat} (hk : w k ≠ xZ) : k < n := by
  rcases Nat.lt_or_ge k n with q | q
  · exact q
  · exact absurd (h.2.1 k q) hk
theorem eOK.moved {u U : State} (hvm : u.vm.Alike U.vm) {cA : ClassId} {e : xE} (h : eOK u cA e) : eOK U cA e := by
  rcases e with ⟨n, f | g⟩ | ⟨ci, fs⟩
  · exact ⟨⟨arrOfT_moved hvm h.1.1, h.1.2.moved hvm⟩, h.2⟩
  · exact ⟨arrOfT_moved hvm h.1, h.2.moved hvm⟩
  · exact h
theorem Rel.moved {B : Nat} {D : va_G} {s U : State} (hvm : s.vm.Alike U.vm) {n : Nat} {w : xW} {H : Heap} (h : Rel B D s n w H) : Rel B D U n w H := by
  obtain ⟨h1, h2, ka, h3, h4⟩ := h
  exact ⟨h1, h2, ka, h3, fun k hk => (h4 k hk).moved hvm⟩
theorem Rel.inA {B : Nat} {D : va_G} {s : State} {n : Nat} {w : xW} {H : Heap} (h : Rel B D s n w H) {r N : Nat} {f : Nat → Int} (hw : w r = xA N f) : ∀ j, inI (f j) := by
  have hr : r < n := h.lt (by rw [hw]; intro q; cases q)
  obtain ⟨-, -, ka, -, h4⟩ := h
  have := h4 r hr
  rw [hw] at this
  exact this.2
theorem Rel.inO {B : Nat} {D : va_G} {s : State} {n : Nat} {w : xW} {H : Heap} (h : Rel B D s n w H) {r ci : Nat} {fs : List xV} (hw : w r = xO ci fs) (hne : ci ≠ 99) : ∀ v ∈ fs, inV v := by
  have hr : r < n := h.lt (by rw [hw]; intro q; cases q; exact hne rfl)
  obtain ⟨-, -, ka, -, h4⟩ := h
  have := h4 r hr
  rw [hw] at this
  exact this
/-- a cell is given another content of its kind -/
theorem Rel.set {B : Nat} {D : va_G} {s : State} {n : Nat} {w : xW} {H1 : Heap} {ka : Nat → ClassId} {k : Nat} {e : xE} (hk : k < n) (hz : H1.size = B + n) (hw : ∀ i, n ≤ i → w i = xZ) (hP : va_P D vwCl ((wsOf B ka n w).set k (B + k, rE B (ka k) e)) H1) (h4 : ∀ i, i < n → eOK s (ka i) (w i)) (he : eOK s (ka k) e) : Rel B D s n (va_up w k e) H1 := by
  rw [wsOf_set hk] at hP
  refine ⟨hz, fun i hi => ?_, ka, hP, fun i hi => ?_⟩
  · have : i ≠ k := by omega
    simp [va_up, this]
    exact hw i hi
  · by_cases q : i = k
    · subst q; simpa [va_up] using he
    · simpa [va_up, q] using h4 i hi
/-! ===== locals ===== -/
def prL (B : Nat) (L : List (Option xV)) : List (Nat × Value) := (List.range L.length).filterMap (fun i => (L[i]?.join).map (fun v => (i, rv B v)))
theorem mem_prL {B : Nat} {L : List (Option xV)} {i : Nat} {x : Value} : (i, x) ∈ prL B L ↔ ∃ v, L[i]? = some (some v) ∧ x = rv B v := by
  unfold prL
  rw [List.mem_filterMap]
  constructor
  · rintro ⟨a, -, h⟩
    obtain ⟨v, h1, h2⟩ := Option.map_eq_some_iff.mp h
    cases h2
    exact ⟨v, by rw [Option.join_eq_some_iff] at h1; exact h1, rfl⟩
  · rintro ⟨v, h1, rfl⟩
    refine ⟨i, List.mem_range.mpr ((List.getElem?_eq_some_iff.mp h1).1), ?_⟩
    rw [h1]; rfl
def hasL (B : Nat) (c : Code) (ls : Array Slot) (L : List (Option xV)) : Prop := ls.size = c.maxLocals ∧ lv_has ls L.length (prL B L) ∧ ∀ v, some v ∈ L → inV v
theorem hasL.at {B : Nat} {c : Code} {ls : Array Slot} {L : List (Option xV)} (h : hasL B c ls L) {i : Nat} {v : xV} (hi : L[i]? = some (some v)) : ls[i]? = some (.val (rv B v)) := h.2.1.2.2 (i, rv B v) (mem_prL.mpr ⟨v, hi, rfl⟩)
theorem hasL.inv {B : Nat} {c : Code} {ls : Array Slot} {L : List (Option xV)} (h : hasL B c ls L) {i : Nat} {v : xV} (hi : L[i]? = some (some v)) : inV v := h.2.2 v (List.mem_of_getElem? hi)
def stOK (L : List (Option xV)) (i : Nat) : Bool := match i with
  | 0 => true
  | i + 1 => match L[i]? with
    | some (some v) => xcat v == 1
    | _ => true
theorem stOK_ne {L : List (Option xV)} {i i2 : Nat} {v : xV} (h : stOK L i = true) (hi : i2 + 1 = i) (hv : L[i2]? = some (some v)) : xcat v = 1 := by
  subst hi
  simp only [stOK, hv] at h
  simpa using h
theorem hasL.store {B : Nat} {c : Code} {ls ls' : Array Slot} {L : List (Option xV)} {i : Nat} {v : xV} (h : hasL B c ls L) (hok : stOK L i = true) (hi : i < L.length) (hv : inV v)
    (h' : lv_has ls' L.length ((i, rv B v) :: (prL B L).filter (fun q => !(q.1 == i) && !(q.1 + 1 == i && q.2.category == 2)))) : hasL B c ls' (L.set i (some v)) := by
  refine ⟨?_, ⟨by rw [List.length_set]; exact h'.1, h'.2.1, ?_⟩, ?_⟩
  · rw [h'.1, ← h.2.1.1]; exact h.1
  · rintro ⟨i2, x⟩ hq
    obtain ⟨v2, h1, rfl⟩ := mem_prL.mp hq
    rw [List.getElem?_set] at h1
    by_cases e : i = i2
    · subst e
      rw [if_pos rfl, if_pos hi] at h1
      cases h1
      exact h'.2.2 _ List.mem_cons_self
    · rw [if_neg e] at h1
      refine h'.2.2 _ (List.mem_cons_of_mem _ (List.mem_filter.mpr ⟨mem_prL.mpr ⟨v2, h1, rfl⟩, ?_⟩))
      have e2 : ¬ i2 = i := fun q => e q.symm
      by_cases e3 : i2 + 1 = i
      · have := stOK_ne hok e3 h1
        simp [e2, rv_cat, this]
      · simp [e2, e3]
  · intro v2 h2
    rcases List.mem_or_eq_of_mem_set h2 with q | q
    · exact h.2.2 v2 q
    · cases q; exact hv
theorem hasL.store2 {B : Nat} {c : Code} {ls ls' : Array Slot} {L : List (Option xV)} {i : Nat} {v : xV} (h : hasL B c ls L) (hok : stOK L i = true) (hi : i + 1 < L.length) (hv : inV v)
    (h' : lv_has ls' L.length ((i, rv B v) :: (prL B L).filter (fun q => !(q.1 == i) && (!(q.1 == i + 1) && !(q.1 + 1 == i && q.2.category == 2))))) : hasL B c ls' ((L.set i (some v)).set (i + 1) none) := by
  refine ⟨?_, ⟨by rw [List.length_set, List.length_set]; exact h'.1, h'.2.1, ?_⟩, ?_⟩
  · rw [h'.1, ← h.2.1.1]; exact h.1
  · rintro ⟨i2, x⟩ hq
    obtain ⟨v2, h1, rfl⟩ := mem_prL.mp hq
    rw [List.getElem?_set] at h1
    by_cases e0 : i + 1 = i2
    · subst e0
      rw [if_pos rfl] at h1
      split at h1 <;> cases h1
    rw [if_neg e0, List.getElem?_set] at h1
    by_cases e : i = i2
    · subst e
      rw [if_pos rfl, if_pos (by omega)] at h1
      cases h1
      exact h'.2.2 _ List.mem_cons_self
    · rw [if_neg e] at h1
      refine h'.2.2 _ (List.mem_cons_of_mem _ (List.mem_filter.mpr ⟨mem_prL.mpr ⟨v2, h1, rfl⟩, ?_⟩))
      have e2 : ¬ i2 = i := fun q => e q.symm
      have e4 : ¬ i2 = i + 1 := fun q => e0 q.symm
      by_cases e3 : i2 + 1 = i
      · have := stOK_ne hok e3 h1
        simp [e2, e4, rv_cat, this]
      · simp [e2, e3, e4]
  · intro v2 h2
    rcases List.mem_or_eq_of_mem_set h2 with q | q
    · rcases List.mem_or_eq_of_mem_set q with q | q
      · exact h.2.2 v2 q
      · cases q; exact hv
    · cases q
/-! ===== words ===== -/
def xWS : List Cond := lw_tbl.filter goodWord
theorem xws {i : Nat} {w : Cond} (h : lw_tbl[i]? = some w) (hg : goodWord w = true) : w ∈ xWS := List.mem_filter.mpr ⟨List.mem_of_getElem? h, hg⟩
def fOK (own : String) (idx ci q : Nat) : Prop := ∃ (C : String) (T : u_T) (N : Nat), vwCl[ci]? = some (C, T, N) ∧ q < N ∧ (T q).1 = C ∧ ((Cond.fieldLink own idx C (T q).2.1 (T q).2.2.1 ∈ xWS) ∨ ∃ host, Cond.fieldLinkNest own idx C (T q).2.1 (T q).2.2.1 host ∈ lw_tbl)
def lkOK (own : String) (idx : Nat) (y : MethodName) : Prop := Cond.methodLink own idx y ∈ xWS ∨ ∃ host, Cond.methodLinkNest own idx y host ∈ lw_tbl
def yOK (y : MethodName) (cc : ByteArray) (nL : Nat) (ret : Option FieldType) (np : Nat) : Prop := Cond.code y cc nL ret ∈ xWS ∧ Cond.initialized y.cls ∈ xWS ∧ plainName y.cls = true ∧ (y.cls ≠ "java/lang/invoke/MethodHandle" ∧ y.cls ≠ "java/lang/invoke/VarHandle" ∧ (parseMethodDescriptor y.desc).map (fun d => d.parameters.length) = some np)
def vOK (y : MethodName) : Prop := Cond.instanceMethod y ∈ xWS ∧ Cond.selects y.cls y y ∈ xWS
def nOK (y : MethodName) : Prop := y.name = "<init>" ∧ Cond.instanceMethod y ∈ xWS
/-! ===== numbers ===== -/
theorem i32_to {a : Int} (h : inI a) : (Int32.ofInt a).toInt = a := by
  rw [Int32.toInt_ofInt]
  obtain ⟨h1, h2⟩ := h
  apply Int.bmod_eq_of_le <;> simp [Int32.size] <;> omega
theorem i32_eq {a b : Int} (ha : inI a) (hb : inI b) : Int32.ofInt a = Int32.ofInt b ↔ a = b := by
  constructor
  · intro h
    rw [← i32_to ha, ← i32_to hb, h]
  · rintro rfl; rfl
theorem i32_lt {a b : Int} (ha : inI a) (hb : inI b) : Int32.ofInt a < Int32.ofInt b ↔ a < b := by
  rw [Int32.lt_iff_toInt_lt, i32_to ha, i32_to hb]
theorem i32_le {a b : Int} (ha : inI a) (hb : inI b) : Int32.ofInt a ≤ Int32.ofInt b ↔ a ≤ b := by
  rw [Int32.le_iff_toInt_le, i32_to ha, i32_to hb]
theorem i32_nat {a : Int} (ha : inI a) (h0 : 0 ≤ a) : (Int32.ofInt a).toNatClampNeg = a.toNat := by
  show (Int32.ofInt a).toInt.toNat = _
  rw [i32_to ha]
theorem i32_in {a : Int} {n : Nat} (ha : inI a) (h0 : 0 ≤ a) (h1 : a < n) : vp_in (Int32.ofInt a) n := by
  rw [vp_in_iff, i32_to ha]
  exact ⟨h0, h1⟩
theorem i32_back (x : Int32) : Int32.ofInt x.toInt = x := Int32.ofInt_toInt x
theorem i32_r (x : Int32) : inI x.toInt := ⟨Int32.le_toInt x, by have := Int32.toInt_lt x; omega⟩
theorem i32_as {a : Int} {x : Int32} (h : x.toInt = a) : x = Int32.ofInt a := by rw [← h, i32_back]
end
section
theorem tw_242 : lw_tbl[242]? = some (Cond.laysFinal "ShiftedShapes$Covering" "ShiftedShapes$Covering" "covers" "[I") := by decide +kernel
theorem tw_244 : lw_tbl[244]? = some (Cond.lays "ShiftedShapes$Covering" "ShiftedShapes$Covering" "size" "I") := by decide +kernel
theorem tw_221 : lw_tbl[221]? = some (Cond.laysFinal "ShiftedShapes$Parting" "ShiftedShapes$Parting" "sets" "[I") := by decide +kernel
theorem tw_223 : lw_tbl[223]? = some (Cond.laysFinal "ShiftedShapes$Parting" "ShiftedShapes$Parting" "places" "[I") := by decide +kernel
theorem tw_225 : lw_tbl[225]? = some (Cond.laysFinal "ShiftedShapes$Parting" "ShiftedShapes$Parting" "covers" "[I") := by decide +kernel
theorem tw_227 : lw_tbl[227]? = some (Cond.lays "ShiftedShapes$Parting" "ShiftedShapes$Parting" "size" "I") := by decide +kernel
theorem tw_229 : lw_tbl[229]? = some (Cond.lays "ShiftedShapes$Parting" "ShiftedShapes$Parting" "rest" "I") := by decide +kernel
theorem tw_231 : lw_tbl[231]? = some (Cond.lays "ShiftedShapes$Parting" "ShiftedShapes$Parting" "price" "I") := by decide +kernel
theorem tw_123 : lw_tbl[123]? = some (Cond.laysFinal "ShiftedShapes$Piece" "ShiftedShapes$Piece" "codes" "[I") := by decide +kernel
theorem tw_125 : lw_tbl[125]? = some (Cond.lays "ShiftedShapes$Piece" "ShiftedShapes$Piece" "size" "I") := by decide +kernel
theorem tw_127 : lw_tbl[127]? = some (Cond.lays "ShiftedShapes$Piece" "ShiftedShapes$Piece" "manner" "I") := by decide +kernel
theorem tw_145 : lw_tbl[145]? = some (Cond.laysFinal "ShiftedShapes$Pile" "ShiftedShapes$Pile" "pieces" "[LShiftedShapes$Piece;") := by decide +kernel
theorem tw_147 : lw_tbl[147]? = some (Cond.lays "ShiftedShapes$Pile" "ShiftedShapes$Pile" "size" "I") := by decide +kernel
theorem tw_100 : lw_tbl[100]? = some (Cond.laysFinal "ShiftedShapes$Script" "ShiftedShapes$Script" "letters" "[I") := by decide +kernel
theorem tw_102 : lw_tbl[102]? = some (Cond.lays "ShiftedShapes$Script" "ShiftedShapes$Script" "length" "I") := by decide +kernel
theorem tw_104 : lw_tbl[104]? = some (Cond.lays "ShiftedShapes$Script" "ShiftedShapes$Script" "at" "I") := by decide +kernel
theorem tw_178 : lw_tbl[178]? = some (Cond.laysFinal "ShiftedShapes$Search" "ShiftedShapes$Search" "times" "[I") := by decide +kernel
theorem tw_180 : lw_tbl[180]? = some (Cond.laysFinal "ShiftedShapes$Search" "ShiftedShapes$Search" "pitches" "[I") := by decide +kernel
theorem tw_182 : lw_tbl[182]? = some (Cond.laysFinal "ShiftedShapes$Search" "ShiftedShapes$Search" "numbers" "[I") := by decide +kernel
theorem tw_184 : lw_tbl[184]? = some (Cond.laysFinal "ShiftedShapes$Search" "ShiftedShapes$Search" "largests" "[I") := by decide +kernel
theorem tw_186 : lw_tbl[186]? = some (Cond.laysFinal "ShiftedShapes$Search" "ShiftedShapes$Search" "wideShifts" "[I") := by decide +kernel
theorem tw_188 : lw_tbl[188]? = some (Cond.lays "ShiftedShapes$Search" "ShiftedShapes$Search" "wideCount" "I") := by decide +kernel
theorem tw_190 : lw_tbl[190]? = some (Cond.lays "ShiftedShapes$Search" "ShiftedShapes$Search" "manner" "I") := by decide +kernel
theorem tw_192 : lw_tbl[192]? = some (Cond.lays "ShiftedShapes$Search" "ShiftedShapes$Search" "present" "I") := by decide +kernel
theorem tw_194 : lw_tbl[194]? = some (Cond.laysFinal "ShiftedShapes$Search" "ShiftedShapes$Search" "shapeSets" "[I") := by decide +kernel
theorem tw_196 : lw_tbl[196]? = some (Cond.laysFinal "ShiftedShapes$Search" "ShiftedShapes$Search" "shapePlaces" "[I") := by decide +kernel
theorem tw_198 : lw_tbl[198]? = some (Cond.laysFinal "ShiftedShapes$Search" "ShiftedShapes$Search" "shapeCovers" "[I") := by decide +kernel
theorem tw_200 : lw_tbl[200]? = some (Cond.lays "ShiftedShapes$Search" "ShiftedShapes$Search" "shapeCount" "I") := by decide +kernel
theorem tw_271 : lw_tbl[271]? = some (Cond.laysFinal "ShiftedShapes" "ShiftedShapes" "script" "LShiftedShapes$Script;") := by decide +kernel
theorem tw_273 : lw_tbl[273]? = some (Cond.laysFinal "ShiftedShapes" "ShiftedShapes" "piece" "LShiftedShapes$Piece;") := by decide +kernel
theorem tw_275 : lw_tbl[275]? = some (Cond.laysFinal "ShiftedShapes" "ShiftedShapes" "trial" "LShiftedShapes$Piece;") := by decide +kernel
theorem tw_277 : lw_tbl[277]? = some (Cond.laysFinal "ShiftedShapes" "ShiftedShapes" "undoable" "LShiftedShapes$Pile;") := by decide +kernel
theorem tw_279 : lw_tbl[279]? = some (Cond.laysFinal "ShiftedShapes" "ShiftedShapes" "kept" "LShiftedShapes$Pile;") := by decide +kernel
theorem tw_281 : lw_tbl[281]? = some (Cond.laysFinal "ShiftedShapes" "ShiftedShapes" "whole" "LShiftedShapes$Search;") := by decide +kernel
theorem tw_283 : lw_tbl[283]? = some (Cond.laysFinal "ShiftedShapes" "ShiftedShapes" "scratch" "LShiftedShapes$Search;") := by decide +kernel
theorem tw_285 : lw_tbl[285]? = some (Cond.laysFinal "ShiftedShapes" "ShiftedShapes" "parts" "LShiftedShapes$Parting;") := by decide +kernel
theorem tw_287 : lw_tbl[287]? = some (Cond.laysFinal "ShiftedShapes" "ShiftedShapes" "covering" "LShiftedShapes$Covering;") := by decide +kernel
theorem tw_289 : lw_tbl[289]? = some (Cond.lays "ShiftedShapes" "ShiftedShapes" "wholeKnown" "Z") := by decide +kernel
theorem tw_291 : lw_tbl[291]? = some (Cond.lays "ShiftedShapes" "ShiftedShapes" "betterKnown" "Z") := by decide +kernel
theorem tw_293 : lw_tbl[293]? = some (Cond.lays "ShiftedShapes" "ShiftedShapes" "betterCode" "I") := by decide +kernel
theorem tw_295 : lw_tbl[295]? = some (Cond.lays "ShiftedShapes" "ShiftedShapes" "betterGain" "I") := by decide +kernel
theorem tw_698 : lw_tbl[698]? = some (Cond.laysFinal "ShiftedShapesModel" "ShiftedShapesModel" "now" "[I") := by decide +kernel
theorem tw_700 : lw_tbl[700]? = some (Cond.laysFinal "ShiftedShapesModel" "ShiftedShapesModel" "read" "[I") := by decide +kernel
theorem tw_702 : lw_tbl[702]? = some (Cond.laysFinal "ShiftedShapesModel" "ShiftedShapesModel" "aside" "[I") := by decide +kernel
theorem tw_704 : lw_tbl[704]? = some (Cond.laysFinal "ShiftedShapesModel" "ShiftedShapesModel" "past" "[I") := by decide +kernel
theorem tw_706 : lw_tbl[706]? = some (Cond.lays "ShiftedShapesModel" "ShiftedShapesModel" "undos" "I") := by decide +kernel
theorem tw_708 : lw_tbl[708]? = some (Cond.laysFinal "ShiftedShapesModel" "ShiftedShapesModel" "kept" "[I") := by decide +kernel
theorem tw_710 : lw_tbl[710]? = some (Cond.lays "ShiftedShapesModel" "ShiftedShapesModel" "keeps" "I") := by decide +kernel
theorem tw_712 : lw_tbl[712]? = some (Cond.laysFinal "ShiftedShapesModel" "ShiftedShapesModel" "text" "[I") := by decide +kernel
theorem tw_714 : lw_tbl[714]? = some (Cond.lays "ShiftedShapesModel" "ShiftedShapesModel" "length" "I") := by decide +kernel
theorem tw_716 : lw_tbl[716]? = some (Cond.lays "ShiftedShapesModel" "ShiftedShapesModel" "place" "I") := by decide +kernel
theorem tw_718 : lw_tbl[718]? = some (Cond.laysFinal "ShiftedShapesModel" "ShiftedShapesModel" "at" "[I") := by decide +kernel
theorem tw_720 : lw_tbl[720]? = some (Cond.laysFinal "ShiftedShapesModel" "ShiftedShapesModel" "largest" "[I") := by decide +kernel
theorem tw_722 : lw_tbl[722]? = some (Cond.lays "ShiftedShapesModel" "ShiftedShapesModel" "modeNow" "I") := by decide +kernel
theorem tw_724 : lw_tbl[724]? = some (Cond.lays "ShiftedShapesModel" "ShiftedShapesModel" "places" "I") := by decide +kernel
theorem tw_726 : lw_tbl[726]? = some (Cond.lays "ShiftedShapesModel" "ShiftedShapesModel" "cover" "I") := by decide +kernel
theorem tw_728 : lw_tbl[728]? = some (Cond.lays "ShiftedShapesModel" "ShiftedShapesModel" "shapes" "I") := by decide +kernel
theorem tw_730 : lw_tbl[730]? = some (Cond.laysFinal "ShiftedShapesModel" "ShiftedShapesModel" "shape" "[I") := by decide +kernel
theorem tw_732 : lw_tbl[732]? = some (Cond.lays "ShiftedShapesModel" "ShiftedShapesModel" "best" "I") := by decide +kernel
theorem tw_734 : lw_tbl[734]? = some (Cond.lays "ShiftedShapesModel" "ShiftedShapesModel" "bestGain" "I") := by decide +kernel
theorem tw_602 : lw_tbl[602]? = some (Cond.code yX0_fewestOf cX0_fewestOf 4 (some .int)) := by decide +kernel
theorem tw_207 : lw_tbl[207]? = some (Cond.code yX1_init cX1_init 1 none) := by decide +kernel
theorem tw_581 : lw_tbl[581]? = some (Cond.code yX1_takeApart cX1_takeApart 6 none) := by decide +kernel
theorem ykX0_fewestOf : yOK yX0_fewestOf cX0_fewestOf 4 ((some .int)) 1 := ⟨(xws tw_602 rfl), (xws tw_77 rfl), rfl, by decide +kernel⟩
theorem ykX1_init : yOK yX1_init cX1_init 1 none 0 := ⟨(xws tw_207 rfl), (xws tw_76 rfl), rfl, by decide +kernel⟩
theorem ykX1_takeApart : yOK yX1_takeApart cX1_takeApart 6 none 2 := ⟨(xws tw_581 rfl), (xws tw_76 rfl), rfl, by decide +kernel⟩
end
