section
def lw_okq (q : MethodName × Nat) : Prop := (q.1.cls ≠ "java/lang/invoke/MethodHandle" ∧ q.1.cls ≠ "java/lang/invoke/VarHandle") ∧ Cond.instantiable q.1.cls q.2 ∈ tables_1 ∧ Cond.privateMethod q.1 ∈ tables_1 ∧ Cond.instanceMethod q.1 ∈ tables_1
theorem lw_p0 : lw_okq (⟨"PartRoom", "answer", "(I)I"⟩, 10) := ⟨⟨by decide +kernel, by decide +kernel⟩, List.mem_of_getElem? (i := 10) (by decide +kernel), List.mem_of_getElem? (i := 167) (by decide +kernel), List.mem_of_getElem? (i := 168) (by decide +kernel)⟩
theorem lw_p1 : lw_okq (⟨"PartRoom$Part", "bears", "(II)Z"⟩, 6) := ⟨⟨by decide +kernel, by decide +kernel⟩, List.mem_of_getElem? (i := 50) (by decide +kernel), List.mem_of_getElem? (i := 288) (by decide +kernel), List.mem_of_getElem? (i := 289) (by decide +kernel)⟩
theorem lw_p2 : lw_okq (⟨"PartRoom$Part", "has", "(I)Z"⟩, 6) := ⟨⟨by decide +kernel, by decide +kernel⟩, List.mem_of_getElem? (i := 50) (by decide +kernel), List.mem_of_getElem? (i := 292) (by decide +kernel), List.mem_of_getElem? (i := 293) (by decide +kernel)⟩
theorem lw_p3 : lw_okq (⟨"PartRoom$Part", "restsAhead", "(I)Z"⟩, 6) := ⟨⟨by decide +kernel, by decide +kernel⟩, List.mem_of_getElem? (i := 50) (by decide +kernel), List.mem_of_getElem? (i := 317) (by decide +kernel), List.mem_of_getElem? (i := 318) (by decide +kernel)⟩
theorem lw_p4 : lw_okq (⟨"PartRoom$Part", "heardAhead", "(II)I"⟩, 6) := ⟨⟨by decide +kernel, by decide +kernel⟩, List.mem_of_getElem? (i := 50) (by decide +kernel), List.mem_of_getElem? (i := 321) (by decide +kernel), List.mem_of_getElem? (i := 322) (by decide +kernel)⟩
theorem lw_p5 : lw_okq (⟨"PartRoom", "plan", "(ILPartRoom$Voice;)V"⟩, 10) := ⟨⟨by decide +kernel, by decide +kernel⟩, List.mem_of_getElem? (i := 10) (by decide +kernel), List.mem_of_getElem? (i := 355) (by decide +kernel), List.mem_of_getElem? (i := 356) (by decide +kernel)⟩
theorem lw_p6 : lw_okq (⟨"PartRoom$Layout", "measure", "()V"⟩, 10) := ⟨⟨by decide +kernel, by decide +kernel⟩, List.mem_of_getElem? (i := 77) (by decide +kernel), List.mem_of_getElem? (i := 367) (by decide +kernel), List.mem_of_getElem? (i := 368) (by decide +kernel)⟩
theorem lw_p7 : lw_okq (⟨"PartRoom$Layout", "timeTurns", "()V"⟩, 10) := ⟨⟨by decide +kernel, by decide +kernel⟩, List.mem_of_getElem? (i := 77) (by decide +kernel), List.mem_of_getElem? (i := 378) (by decide +kernel), List.mem_of_getElem? (i := 379) (by decide +kernel)⟩
theorem lw_p8 : lw_okq (⟨"PartRoom$Layout", "chooseFrom", "(I)V"⟩, 10) := ⟨⟨by decide +kernel, by decide +kernel⟩, List.mem_of_getElem? (i := 77) (by decide +kernel), List.mem_of_getElem? (i := 387) (by decide +kernel), List.mem_of_getElem? (i := 388) (by decide +kernel)⟩
theorem lw_p9 : lw_okq (⟨"PartRoom$Layout", "fill", "(I)I"⟩, 10) := ⟨⟨by decide +kernel, by decide +kernel⟩, List.mem_of_getElem? (i := 77) (by decide +kernel), List.mem_of_getElem? (i := 391) (by decide +kernel), List.mem_of_getElem? (i := 392) (by decide +kernel)⟩
theorem lw_p10 : lw_okq (⟨"PartRoom$Layout", "widthAsFirst", "(I)I"⟩, 10) := ⟨⟨by decide +kernel, by decide +kernel⟩, List.mem_of_getElem? (i := 77) (by decide +kernel), List.mem_of_getElem? (i := 395) (by decide +kernel), List.mem_of_getElem? (i := 396) (by decide +kernel)⟩
theorem lw_p11 : lw_okq (⟨"PartRoom$Layout", "isBadTurn", "(I)Z"⟩, 10) := ⟨⟨by decide +kernel, by decide +kernel⟩, List.mem_of_getElem? (i := 77) (by decide +kernel), List.mem_of_getElem? (i := 399) (by decide +kernel), List.mem_of_getElem? (i := 400) (by decide +kernel)⟩
theorem lw_p12 : lw_okq (⟨"PartRoom$Layout", "placeOfPage", "(I)I"⟩, 10) := ⟨⟨by decide +kernel, by decide +kernel⟩, List.mem_of_getElem? (i := 77) (by decide +kernel), List.mem_of_getElem? (i := 420) (by decide +kernel), List.mem_of_getElem? (i := 421) (by decide +kernel)⟩
theorem lw_p13 : lw_okq (⟨"PartRoom$Voice", "markOf", "(LPartRoom$Score;I)I"⟩, 8) := ⟨⟨by decide +kernel, by decide +kernel⟩, List.mem_of_getElem? (i := 185) (by decide +kernel), List.mem_of_getElem? (i := 455) (by decide +kernel), List.mem_of_getElem? (i := 456) (by decide +kernel)⟩
theorem lw_p14 : lw_okq (⟨"PartRoomModel", "finds", "(I)I"⟩, 28) := ⟨⟨by decide +kernel, by decide +kernel⟩, List.mem_of_getElem? (i := 513) (by decide +kernel), List.mem_of_getElem? (i := 612) (by decide +kernel), List.mem_of_getElem? (i := 613) (by decide +kernel)⟩
theorem lw_p15 : lw_okq (⟨"PartRoomModel", "isVoice", "(I)Z"⟩, 28) := ⟨⟨by decide +kernel, by decide +kernel⟩, List.mem_of_getElem? (i := 513) (by decide +kernel), List.mem_of_getElem? (i := 625) (by decide +kernel), List.mem_of_getElem? (i := 626) (by decide +kernel)⟩
def lw_privs_1 : List (MethodName × Nat) := [(⟨"PartRoom", "answer", "(I)I"⟩, 10), (⟨"PartRoom$Part", "bears", "(II)Z"⟩, 6), (⟨"PartRoom$Part", "has", "(I)Z"⟩, 6), (⟨"PartRoom$Part", "restsAhead", "(I)Z"⟩, 6), (⟨"PartRoom$Part", "heardAhead", "(II)I"⟩, 6), (⟨"PartRoom", "plan", "(ILPartRoom$Voice;)V"⟩, 10), (⟨"PartRoom$Layout", "measure", "()V"⟩, 10), (⟨"PartRoom$Layout", "timeTurns", "()V"⟩, 10), (⟨"PartRoom$Layout", "chooseFrom", "(I)V"⟩, 10), (⟨"PartRoom$Layout", "fill", "(I)I"⟩, 10), (⟨"PartRoom$Layout", "widthAsFirst", "(I)I"⟩, 10), (⟨"PartRoom$Layout", "isBadTurn", "(I)Z"⟩, 10), (⟨"PartRoom$Layout", "placeOfPage", "(I)I"⟩, 10), (⟨"PartRoom$Voice", "markOf", "(LPartRoom$Score;I)I"⟩, 8), (⟨"PartRoomModel", "finds", "(I)I"⟩, 28), (⟨"PartRoomModel", "isVoice", "(I)Z"⟩, 28)]
theorem lw_r1 : ∀ q ∈ lw_privs_1, lw_okq q := List.forall_mem_cons.mpr ⟨lw_p0, List.forall_mem_cons.mpr ⟨lw_p1, List.forall_mem_cons.mpr ⟨lw_p2, List.forall_mem_cons.mpr ⟨lw_p3, List.forall_mem_cons.mpr ⟨lw_p4, List.forall_mem_cons.mpr ⟨lw_p5, List.forall_mem_cons.mpr ⟨lw_p6, List.forall_mem_cons.mpr ⟨lw_p7, List.forall_mem_cons.mpr ⟨lw_p8, List.forall_mem_cons.mpr ⟨lw_p9, List.forall_mem_cons.mpr ⟨lw_p10, List.forall_mem_cons.mpr ⟨lw_p11, List.forall_mem_cons.mpr ⟨lw_p12, List.forall_mem_cons.mpr ⟨lw_p13, List.forall_mem_cons.mpr ⟨lw_p14, List.forall_mem_cons.mpr ⟨lw_p15, fun _ h => absurd h List.not_mem_nil⟩⟩⟩⟩⟩⟩⟩⟩⟩⟩⟩⟩⟩⟩⟩⟩
theorem lw_p16 : lw_okq (⟨"PartRoomModel", "isBar", "(I)Z"⟩, 28) := ⟨⟨by decide +kernel, by decide +kernel⟩, List.mem_of_getElem? (i := 513) (by decide +kernel), List.mem_of_getElem? (i := 633) (by decide +kernel), List.mem_of_getElem? (i := 634) (by decide +kernel)⟩
theorem lw_p17 : lw_okq (⟨"PartRoomModel", "isCut", "(I)Z"⟩, 28) := ⟨⟨by decide +kernel, by decide +kernel⟩, List.mem_of_getElem? (i := 513) (by decide +kernel), List.mem_of_getElem? (i := 645) (by decide +kernel), List.mem_of_getElem? (i := 646) (by decide +kernel)⟩
theorem lw_p18 : lw_okq (⟨"PartRoomModel", "findRow", "()V"⟩, 28) := ⟨⟨by decide +kernel, by decide +kernel⟩, List.mem_of_getElem? (i := 513) (by decide +kernel), List.mem_of_getElem? (i := 657) (by decide +kernel), List.mem_of_getElem? (i := 658) (by decide +kernel)⟩
theorem lw_p19 : lw_okq (⟨"PartRoomModel", "begins", "(II)Z"⟩, 28) := ⟨⟨by decide +kernel, by decide +kernel⟩, List.mem_of_getElem? (i := 513) (by decide +kernel), List.mem_of_getElem? (i := 661) (by decide +kernel), List.mem_of_getElem? (i := 662) (by decide +kernel)⟩
theorem lw_p20 : lw_okq (⟨"PartRoomModel", "rests", "(II)Z"⟩, 28) := ⟨⟨by decide +kernel, by decide +kernel⟩, List.mem_of_getElem? (i := 513) (by decide +kernel), List.mem_of_getElem? (i := 665) (by decide +kernel), List.mem_of_getElem? (i := 666) (by decide +kernel)⟩
theorem lw_p21 : lw_okq (⟨"PartRoomModel", "restsFrom", "(II)I"⟩, 28) := ⟨⟨by decide +kernel, by decide +kernel⟩, List.mem_of_getElem? (i := 513) (by decide +kernel), List.mem_of_getElem? (i := 669) (by decide +kernel), List.mem_of_getElem? (i := 670) (by decide +kernel)⟩
theorem lw_p22 : lw_okq (⟨"PartRoomModel", "cueAt", "(II)I"⟩, 28) := ⟨⟨by decide +kernel, by decide +kernel⟩, List.mem_of_getElem? (i := 513) (by decide +kernel), List.mem_of_getElem? (i := 677) (by decide +kernel), List.mem_of_getElem? (i := 678) (by decide +kernel)⟩
theorem lw_p23 : lw_okq (⟨"PartRoomModel", "findPages", "(I)V"⟩, 28) := ⟨⟨by decide +kernel, by decide +kernel⟩, List.mem_of_getElem? (i := 513) (by decide +kernel), List.mem_of_getElem? (i := 705) (by decide +kernel), List.mem_of_getElem? (i := 706) (by decide +kernel)⟩
theorem lw_p24 : lw_okq (⟨"PartRoomModel", "systemsOf", "(III)I"⟩, 28) := ⟨⟨by decide +kernel, by decide +kernel⟩, List.mem_of_getElem? (i := 513) (by decide +kernel), List.mem_of_getElem? (i := 709) (by decide +kernel), List.mem_of_getElem? (i := 710) (by decide +kernel)⟩
theorem lw_p25 : lw_okq (⟨"PartRoomModel", "widthOf", "(IIZ)I"⟩, 28) := ⟨⟨by decide +kernel, by decide +kernel⟩, List.mem_of_getElem? (i := 513) (by decide +kernel), List.mem_of_getElem? (i := 713) (by decide +kernel), List.mem_of_getElem? (i := 714) (by decide +kernel)⟩
theorem lw_p26 : lw_okq (⟨"PartRoomModel", "isBad", "(II)Z"⟩, 28) := ⟨⟨by decide +kernel, by decide +kernel⟩, List.mem_of_getElem? (i := 513) (by decide +kernel), List.mem_of_getElem? (i := 717) (by decide +kernel), List.mem_of_getElem? (i := 718) (by decide +kernel)⟩
theorem lw_p27 : lw_okq (⟨"PartRoomModel", "freeAt", "(II)I"⟩, 28) := ⟨⟨by decide +kernel, by decide +kernel⟩, List.mem_of_getElem? (i := 513) (by decide +kernel), List.mem_of_getElem? (i := 721) (by decide +kernel), List.mem_of_getElem? (i := 722) (by decide +kernel)⟩
theorem lw_p28 : lw_okq (⟨"PartRoomModel", "pageAt", "(II)I"⟩, 28) := ⟨⟨by decide +kernel, by decide +kernel⟩, List.mem_of_getElem? (i := 513) (by decide +kernel), List.mem_of_getElem? (i := 729) (by decide +kernel), List.mem_of_getElem? (i := 730) (by decide +kernel)⟩
def lw_privs_2 : List (MethodName × Nat) := [(⟨"PartRoomModel", "isBar", "(I)Z"⟩, 28), (⟨"PartRoomModel", "isCut", "(I)Z"⟩, 28), (⟨"PartRoomModel", "findRow", "()V"⟩, 28), (⟨"PartRoomModel", "begins", "(II)Z"⟩, 28), (⟨"PartRoomModel", "rests", "(II)Z"⟩, 28), (⟨"PartRoomModel", "restsFrom", "(II)I"⟩, 28), (⟨"PartRoomModel", "cueAt", "(II)I"⟩, 28), (⟨"PartRoomModel", "findPages", "(I)V"⟩, 28), (⟨"PartRoomModel", "systemsOf", "(III)I"⟩, 28), (⟨"PartRoomModel", "widthOf", "(IIZ)I"⟩, 28), (⟨"PartRoomModel", "isBad", "(II)Z"⟩, 28), (⟨"PartRoomModel", "freeAt", "(II)I"⟩, 28), (⟨"PartRoomModel", "pageAt", "(II)I"⟩, 28)]
theorem lw_r2 : ∀ q ∈ lw_privs_2, lw_okq q := List.forall_mem_cons.mpr ⟨lw_p16, List.forall_mem_cons.mpr ⟨lw_p17, List.forall_mem_cons.mpr ⟨lw_p18, List.forall_mem_cons.mpr ⟨lw_p19, List.forall_mem_cons.mpr ⟨lw_p20, List.forall_mem_cons.mpr ⟨lw_p21, List.forall_mem_cons.mpr ⟨lw_p22, List.forall_mem_cons.mpr ⟨lw_p23, List.forall_mem_cons.mpr ⟨lw_p24, List.forall_mem_cons.mpr ⟨lw_p25, List.forall_mem_cons.mpr ⟨lw_p26, List.forall_mem_cons.mpr ⟨lw_p27, List.forall_mem_cons.mpr ⟨lw_p28, fun _ h => absurd h List.not_mem_nil⟩⟩⟩⟩⟩⟩⟩⟩⟩⟩⟩⟩⟩
def lw_privs : List (MethodName × Nat) := lw_privs_1 ++ (lw_privs_2)
def lw_tbl : List Cond := k2_sels lw_privs ++ tables_1
theorem lw_privs_ok : ∀ q ∈ lw_privs, lw_okq q := by
  show ∀ q ∈ lw_privs_1 ++ (lw_privs_2), lw_okq q
  exact List.forall_mem_append.mpr ⟨lw_r1, lw_r2⟩
end
section
def RX0 : String := "PartRoom$Layout"
def TX0 : u_T := fun k => match k with
  | 0 => ("PartRoom$Layout", "part", "LPartRoom$Part;", true)
  | 1 => ("PartRoom$Layout", "widths", "[I", true)
  | 2 => ("PartRoom$Layout", "freeAhead", "[I", true)
  | 3 => ("PartRoom$Layout", "systemsTo", "[I", true)
  | 4 => ("PartRoom$Layout", "badFrom", "[I", true)
  | 5 => ("PartRoom$Layout", "pagesFrom", "[I", true)
  | 6 => ("PartRoom$Layout", "nextFrom", "[I", true)
  | 7 => ("PartRoom$Layout", "width", "I", false)
  | 8 => ("PartRoom$Layout", "lines", "I", false)
  | _ => ("PartRoom$Layout", "need", "I", false)
def tyX0 : Nat → FieldType := fun k => match k with
  | 0 => .object "PartRoom$Part"
  | 1 => .array .int
  | 2 => .array .int
  | 3 => .array .int
  | 4 => .array .int
  | 5 => .array .int
  | 6 => .array .int
  | 7 => .int
  | 8 => .int
  | _ => .int
theorem nmX0 : ∀ a, a < 10 → ∀ b, b < 10 → a ≠ b → (TX0 a).2.1 ≠ (TX0 b).2.1 := by decide +kernel
theorem tyX0_ok : ∀ k, k < 10 → parseFieldDescriptor (TX0 k).2.2.1 = some (tyX0 k) := by decide +kernel
abbrev cX0_init : ByteArray := prog_2_method_1_code
def yX0_init : MethodName := ⟨RX0, "<init>", "(LPartRoom$Part;)V"⟩
abbrev cX0_plan : ByteArray := prog_2_method_2_code
def yX0_plan : MethodName := ⟨RX0, "plan", "(III)V"⟩
abbrev cX0_measure : ByteArray := prog_2_method_3_code
def yX0_measure : MethodName := ⟨RX0, "measure", "()V"⟩
abbrev cX0_timeTurns : ByteArray := prog_2_method_4_code
def yX0_timeTurns : MethodName := ⟨RX0, "timeTurns", "()V"⟩
abbrev cX0_widthAsFirst : ByteArray := prog_2_method_5_code
def yX0_widthAsFirst : MethodName := ⟨RX0, "widthAsFirst", "(I)I"⟩
abbrev cX0_fill : ByteArray := prog_2_method_6_code
def yX0_fill : MethodName := ⟨RX0, "fill", "(I)I"⟩
abbrev cX0_chooseFrom : ByteArray := prog_2_method_7_code
def yX0_chooseFrom : MethodName := ⟨RX0, "chooseFrom", "(I)V"⟩
abbrev cX0_isBadTurn : ByteArray := prog_2_method_8_code
def yX0_isBadTurn : MethodName := ⟨RX0, "isBadTurn", "(I)Z"⟩
abbrev cX0_pageCount : ByteArray := prog_2_method_9_code
def yX0_pageCount : MethodName := ⟨RX0, "pageCount", "()I"⟩
abbrev cX0_badTurns : ByteArray := prog_2_method_10_code
def yX0_badTurns : MethodName := ⟨RX0, "badTurns", "()I"⟩
abbrev cX0_placeOfPage : ByteArray := prog_2_method_11_code
def yX0_placeOfPage : MethodName := ⟨RX0, "placeOfPage", "(I)I"⟩
abbrev cX0_firstBar : ByteArray := prog_2_method_12_code
def yX0_firstBar : MethodName := ⟨RX0, "firstBar", "(I)I"⟩
abbrev cX0_freeBehind : ByteArray := prog_2_method_13_code
def yX0_freeBehind : MethodName := ⟨RX0, "freeBehind", "(I)I"⟩
abbrev cX0_systemsOf : ByteArray := prog_2_method_14_code
def yX0_systemsOf : MethodName := ⟨RX0, "systemsOf", "(I)I"⟩
def RX1 : String := "PartRoom$Part"
def TX1 : u_T := fun k => match k with
  | 0 => ("PartRoom$Part", "score", "LPartRoom$Score;", true)
  | 1 => ("PartRoom$Part", "bars", "[I", true)
  | 2 => ("PartRoom$Part", "notes", "[I", true)
  | 3 => ("PartRoom$Part", "size", "I", false)
  | 4 => ("PartRoom$Part", "self", "I", false)
  | _ => ("PartRoom$Part", "due", "I", false)
def tyX1 : Nat → FieldType := fun k => match k with
  | 0 => .object "PartRoom$Score"
  | 1 => .array .int
  | 2 => .array .int
  | 3 => .int
  | 4 => .int
  | _ => .int
theorem nmX1 : ∀ a, a < 6 → ∀ b, b < 6 → a ≠ b → (TX1 a).2.1 ≠ (TX1 b).2.1 := by decide +kernel
theorem tyX1_ok : ∀ k, k < 6 → parseFieldDescriptor (TX1 k).2.2.1 = some (tyX1 k) := by decide +kernel
abbrev cX1_init : ByteArray := prog_3_method_1_code
def yX1_init : MethodName := ⟨RX1, "<init>", "(LPartRoom$Score;)V"⟩
abbrev cX1_draw : ByteArray := prog_3_method_2_code
def yX1_draw : MethodName := ⟨RX1, "draw", "(II)V"⟩
abbrev cX1_has : ByteArray := prog_3_method_3_code
def yX1_has : MethodName := ⟨RX1, "has", "(I)Z"⟩
abbrev cX1_rests : ByteArray := prog_3_method_4_code
def yX1_rests : MethodName := ⟨RX1, "rests", "(I)Z"⟩
abbrev cX1_plays : ByteArray := prog_3_method_5_code
def yX1_plays : MethodName := ⟨RX1, "plays", "(I)Z"⟩
abbrev cX1_bears : ByteArray := prog_3_method_6_code
def yX1_bears : MethodName := ⟨RX1, "bears", "(II)Z"⟩
abbrev cX1_opensRests : ByteArray := prog_3_method_7_code
def yX1_opensRests : MethodName := ⟨RX1, "opensRests", "(I)Z"⟩
abbrev cX1_restsLength : ByteArray := prog_3_method_8_code
def yX1_restsLength : MethodName := ⟨RX1, "restsLength", "(I)I"⟩
abbrev cX1_restsAt : ByteArray := prog_3_method_9_code
def yX1_restsAt : MethodName := ⟨RX1, "restsAt", "(I)I"⟩
abbrev cX1_placeOf : ByteArray := prog_3_method_10_code
def yX1_placeOf : MethodName := ⟨RX1, "placeOf", "(I)I"⟩
abbrev cX1_barAt : ByteArray := prog_3_method_11_code
def yX1_barAt : MethodName := ⟨RX1, "barAt", "(I)I"⟩
abbrev cX1_secondsAt : ByteArray := prog_3_method_12_code
def yX1_secondsAt : MethodName := ⟨RX1, "secondsAt", "(I)I"⟩
abbrev cX1_notesAt : ByteArray := prog_3_method_13_code
def yX1_notesAt : MethodName := ⟨RX1, "notesAt", "(I)I"⟩
abbrev cX1_cueAt : ByteArray := prog_3_method_14_code
def yX1_cueAt : MethodName := ⟨RX1, "cueAt", "(I)I"⟩
abbrev cX1_restsAhead : ByteArray := prog_3_method_15_code
def yX1_restsAhead : MethodName := ⟨RX1, "restsAhead", "(I)Z"⟩
abbrev cX1_heardAhead : ByteArray := prog_3_method_16_code
def yX1_heardAhead : MethodName := ⟨RX1, "heardAhead", "(II)I"⟩
def RX2 : String := "PartRoom$Score"
def TX2 : u_T := fun k => match k with
  | 0 => ("PartRoom$Score", "seconds", "[I", true)
  | 1 => ("PartRoom$Score", "bits", "[I", true)
  | 2 => ("PartRoom$Score", "voices", "[LPartRoom$Voice;", true)
  | 3 => ("PartRoom$Score", "barCount", "I", false)
  | _ => ("PartRoom$Score", "voiceCount", "I", false)
def tyX2 : Nat → FieldType := fun k => match k with
  | 0 => .array .int
  | 1 => .array .int
  | 2 => .array (.object "PartRoom$Voice")
  | 3 => .int
  | _ => .int
theorem nmX2 : ∀ a, a < 5 → ∀ b, b < 5 → a ≠ b → (TX2 a).2.1 ≠ (TX2 b).2.1 := by decide +kernel
theorem tyX2_ok : ∀ k, k < 5 → parseFieldDescriptor (TX2 k).2.2.1 = some (tyX2 k) := by decide +kernel
abbrev cX2_init : ByteArray := prog_4_method_1_code
def yX2_init : MethodName := ⟨RX2, "<init>", "()V"⟩
abbrev cX2_addBar : ByteArray := prog_4_method_2_code
def yX2_addBar : MethodName := ⟨RX2, "addBar", "(I)I"⟩
abbrev cX2_addVoice : ByteArray := prog_4_method_3_code
def yX2_addVoice : MethodName := ⟨RX2, "addVoice", "(II)I"⟩
abbrev cX2_hasBar : ByteArray := prog_4_method_4_code
def yX2_hasBar : MethodName := ⟨RX2, "hasBar", "(I)Z"⟩
abbrev cX2_isThere : ByteArray := prog_4_method_5_code
def yX2_isThere : MethodName := ⟨RX2, "isThere", "(I)Z"⟩
abbrev cX2_voiceAt : ByteArray := prog_4_method_6_code
def yX2_voiceAt : MethodName := ⟨RX2, "voiceAt", "(I)LPartRoom$Voice;"⟩
abbrev cX2_setCut : ByteArray := prog_4_method_7_code
def yX2_setCut : MethodName := ⟨RX2, "setCut", "(IIZ)I"⟩
abbrev cX2_cutBars : ByteArray := prog_4_method_8_code
def yX2_cutBars : MethodName := ⟨RX2, "cutBars", "()I"⟩
abbrev cX2_secondsLeft : ByteArray := prog_4_method_9_code
def yX2_secondsLeft : MethodName := ⟨RX2, "secondsLeft", "()I"⟩
abbrev cX2_laidVoices : ByteArray := prog_4_method_10_code
def yX2_laidVoices : MethodName := ⟨RX2, "laidVoices", "()I"⟩
def RX3 : String := "PartRoom$Told"
def TX3 : u_T := fun k => match k with
  | 0 => ("PartRoom$Told", "numbers", "[I", true)
  | _ => ("PartRoom$Told", "waiting", "I", false)
def tyX3 : Nat → FieldType := fun k => match k with
  | 0 => .array .int
  | _ => .int
theorem nmX3 : ∀ a, a < 2 → ∀ b, b < 2 → a ≠ b → (TX3 a).2.1 ≠ (TX3 b).2.1 := by decide +kernel
theorem tyX3_ok : ∀ k, k < 2 → parseFieldDescriptor (TX3 k).2.2.1 = some (tyX3 k) := by decide +kernel
abbrev cX3_init : ByteArray := prog_5_method_1_code
def yX3_init : MethodName := ⟨RX3, "<init>", "()V"⟩
abbrev cX3_add : ByteArray := prog_5_method_2_code
def yX3_add : MethodName := ⟨RX3, "add", "(I)I"⟩
abbrev cX3_takeAll : ByteArray := prog_5_method_3_code
def yX3_takeAll : MethodName := ⟨RX3, "takeAll", "()I"⟩
abbrev cX3_compare : ByteArray := prog_5_method_4_code
def yX3_compare : MethodName := ⟨RX3, "compare", "(ILPartRoom$Part;)I"⟩
def RX4 : String := "PartRoom$Voice"
def TX4 : u_T := fun k => match k with
  | 0 => ("PartRoom$Voice", "kind", "I", true)
  | 1 => ("PartRoom$Voice", "shift", "I", true)
  | 2 => ("PartRoom$Voice", "notes", "[I", true)
  | 3 => ("PartRoom$Voice", "loud", "[I", true)
  | 4 => ("PartRoom$Voice", "onStage", "Z", false)
  | 5 => ("PartRoom$Voice", "laidFirsts", "[I", true)
  | 6 => ("PartRoom$Voice", "laidMarks", "[I", true)
  | _ => ("PartRoom$Voice", "laidPages", "I", false)
def tyX4 : Nat → FieldType := fun k => match k with
  | 0 => .int
  | 1 => .int
  | 2 => .array .int
  | 3 => .array .int
  | 4 => .boolean
  | 5 => .array .int
  | 6 => .array .int
  | _ => .int
theorem nmX4 : ∀ a, a < 8 → ∀ b, b < 8 → a ≠ b → (TX4 a).2.1 ≠ (TX4 b).2.1 := by decide +kernel
theorem tyX4_ok : ∀ k, k < 8 → parseFieldDescriptor (TX4 k).2.2.1 = some (tyX4 k) := by decide +kernel
abbrev cX4_init : ByteArray := prog_6_method_1_code
def yX4_init : MethodName := ⟨RX4, "<init>", "(II)V"⟩
abbrev cX4_isOf : ByteArray := prog_6_method_2_code
def yX4_isOf : MethodName := ⟨RX4, "isOf", "(I)Z"⟩
abbrev cX4_needOf : ByteArray := prog_6_method_3_code
def yX4_needOf : MethodName := ⟨RX4, "needOf", "(I)I"⟩
abbrev cX4_markOf : ByteArray := prog_6_method_4_code
def yX4_markOf : MethodName := ⟨RX4, "markOf", "(LPartRoom$Score;I)I"⟩
abbrev cX4_keepLaid : ByteArray := prog_6_method_5_code
def yX4_keepLaid : MethodName := ⟨RX4, "keepLaid", "(LPartRoom$Score;LPartRoom$Layout;)V"⟩
abbrev cX4_stalePages : ByteArray := prog_6_method_6_code
def yX4_stalePages : MethodName := ⟨RX4, "stalePages", "(LPartRoom$Score;)I"⟩
def RX5 : String := "PartRoom"
def TX5 : u_T := fun k => match k with
  | 0 => ("PartRoom", "score", "LPartRoom$Score;", true)
  | 1 => ("PartRoom", "part", "LPartRoom$Part;", true)
  | 2 => ("PartRoom", "layout", "LPartRoom$Layout;", true)
  | 3 => ("PartRoom", "told", "LPartRoom$Told;", true)
  | 4 => ("PartRoom", "findings", "[I", true)
  | 5 => ("PartRoom", "keyFifths", "I", false)
  | 6 => ("PartRoom", "dueBars", "I", false)
  | 7 => ("PartRoom", "paperWidth", "I", false)
  | 8 => ("PartRoom", "paperLines", "I", false)
  | _ => ("PartRoom", "needSeconds", "I", false)
def tyX5 : Nat → FieldType := fun k => match k with
  | 0 => .object "PartRoom$Score"
  | 1 => .object "PartRoom$Part"
  | 2 => .object "PartRoom$Layout"
  | 3 => .object "PartRoom$Told"
  | 4 => .array .int
  | 5 => .int
  | 6 => .int
  | 7 => .int
  | 8 => .int
  | _ => .int
theorem nmX5 : ∀ a, a < 10 → ∀ b, b < 10 → a ≠ b → (TX5 a).2.1 ≠ (TX5 b).2.1 := by decide +kernel
theorem tyX5_ok : ∀ k, k < 10 → parseFieldDescriptor (TX5 k).2.2.1 = some (tyX5 k) := by decide +kernel
abbrev cX5_init : ByteArray := prog_1_method_1_code
def yX5_init : MethodName := ⟨RX5, "<init>", "()V"⟩
abbrev cX5_bar : ByteArray := prog_1_method_2_code
def yX5_bar : MethodName := ⟨RX5, "bar", "(I)I"⟩
abbrev cX5_voice : ByteArray := prog_1_method_3_code
def yX5_voice : MethodName := ⟨RX5, "voice", "(II)I"⟩
abbrev cX5_as : ByteArray := prog_1_method_4_code
def yX5_as : MethodName := ⟨RX5, "as", "(II)I"⟩
abbrev cX5_notes : ByteArray := prog_1_method_5_code
def yX5_notes : MethodName := ⟨RX5, "notes", "(IIII)I"⟩
abbrev cX5_sign : ByteArray := prog_1_method_6_code
def yX5_sign : MethodName := ⟨RX5, "sign", "(II)I"⟩
abbrev cX5_cut : ByteArray := prog_1_method_7_code
def yX5_cut : MethodName := ⟨RX5, "cut", "(III)I"⟩
abbrev cX5_stage : ByteArray := prog_1_method_8_code
def yX5_stage : MethodName := ⟨RX5, "stage", "(II)I"⟩
abbrev cX5_rest : ByteArray := prog_1_method_9_code
def yX5_rest : MethodName := ⟨RX5, "rest", "(II)I"⟩
abbrev cX5_cue : ByteArray := prog_1_method_10_code
def yX5_cue : MethodName := ⟨RX5, "cue", "(II)I"⟩
abbrev cX5_key : ByteArray := prog_1_method_11_code
def yX5_key : MethodName := ⟨RX5, "key", "(I)I"⟩
abbrev cX5_written : ByteArray := prog_1_method_12_code
def yX5_written : MethodName := ⟨RX5, "written", "(I)I"⟩
abbrev cX5_due : ByteArray := prog_1_method_13_code
def yX5_due : MethodName := ⟨RX5, "due", "(I)I"⟩
abbrev cX5_paper : ByteArray := prog_1_method_14_code
def yX5_paper : MethodName := ⟨RX5, "paper", "(II)I"⟩
abbrev cX5_need : ByteArray := prog_1_method_15_code
def yX5_need : MethodName := ⟨RX5, "need", "(I)I"⟩
abbrev cX5_pages : ByteArray := prog_1_method_16_code
def yX5_pages : MethodName := ⟨RX5, "pages", "(II)I"⟩
abbrev cX5_page : ByteArray := prog_1_method_17_code
def yX5_page : MethodName := ⟨RX5, "page", "(II)I"⟩
abbrev cX5_free : ByteArray := prog_1_method_18_code
def yX5_free : MethodName := ⟨RX5, "free", "(II)I"⟩
abbrev cX5_systems : ByteArray := prog_1_method_19_code
def yX5_systems : MethodName := ⟨RX5, "systems", "(II)I"⟩
abbrev cX5_lay : ByteArray := prog_1_method_20_code
def yX5_lay : MethodName := ⟨RX5, "lay", "(I)I"⟩
abbrev cX5_stale : ByteArray := prog_1_method_21_code
def yX5_stale : MethodName := ⟨RX5, "stale", "(I)I"⟩
abbrev cX5_tell : ByteArray := prog_1_method_22_code
def yX5_tell : MethodName := ⟨RX5, "tell", "(I)I"⟩
abbrev cX5_check : ByteArray := prog_1_method_23_code
def yX5_check : MethodName := ⟨RX5, "check", "(I)I"⟩
abbrev cX5_count : ByteArray := prog_1_method_24_code
def yX5_count : MethodName := ⟨RX5, "count", "(I)I"⟩
abbrev cX5_found : ByteArray := prog_1_method_25_code
def yX5_found : MethodName := ⟨RX5, "found", "(I)I"⟩
abbrev cX5_within : ByteArray := prog_1_method_26_code
def yX5_within : MethodName := ⟨RX5, "within", "(III)Z"⟩
abbrev cX5_answer : ByteArray := prog_1_method_27_code
def yX5_answer : MethodName := ⟨RX5, "answer", "(I)I"⟩
abbrev cX5_plan : ByteArray := prog_1_method_28_code
def yX5_plan : MethodName := ⟨RX5, "plan", "(ILPartRoom$Voice;)V"⟩
def RX6 : String := "PartRoomModel"
def TX6 : u_T := fun k => match k with
  | 0 => ("PartRoomModel", "bars", "I", false)
  | 1 => ("PartRoomModel", "voices", "I", false)
  | 2 => ("PartRoomModel", "waiting", "I", false)
  | 3 => ("PartRoomModel", "keyNow", "I", false)
  | 4 => ("PartRoomModel", "dueNow", "I", false)
  | 5 => ("PartRoomModel", "wide", "I", false)
  | 6 => ("PartRoomModel", "lines", "I", false)
  | 7 => ("PartRoomModel", "needNow", "I", false)
  | 8 => ("PartRoomModel", "seconds", "[I", true)
  | 9 => ("PartRoomModel", "marks", "[I", true)
  | 10 => ("PartRoomModel", "kind", "[I", true)
  | 11 => ("PartRoomModel", "shift", "[I", true)
  | 12 => ("PartRoomModel", "onStage", "[I", true)
  | 13 => ("PartRoomModel", "played", "[I", true)
  | 14 => ("PartRoomModel", "loud", "[I", true)
  | 15 => ("PartRoomModel", "waits", "[I", true)
  | 16 => ("PartRoomModel", "counted", "[I", true)
  | 17 => ("PartRoomModel", "row", "[I", true)
  | 18 => ("PartRoomModel", "many", "I", false)
  | 19 => ("PartRoomModel", "bad", "[I", true)
  | 20 => ("PartRoomModel", "pagesFrom", "[I", true)
  | 21 => ("PartRoomModel", "size", "[I", true)
  | 22 => ("PartRoomModel", "laidPages", "[I", true)
  | 23 => ("PartRoomModel", "pageOf", "[I", true)
  | 24 => ("PartRoomModel", "laidNotes", "[I", true)
  | 25 => ("PartRoomModel", "laidLoud", "[I", true)
  | 26 => ("PartRoomModel", "laidMarks", "[I", true)
  | _ => ("PartRoomModel", "isStale", "[Z", true)
def tyX6 : Nat → FieldType := fun k => match k with
  | 0 => .int
  | 1 => .int
  | 2 => .int
  | 3 => .int
  | 4 => .int
  | 5 => .int
  | 6 => .int
  | 7 => .int
  | 8 => .array .int
  | 9 => .array .int
  | 10 => .array .int
  | 11 => .array .int
  | 12 => .array .int
  | 13 => .array .int
  | 14 => .array .int
  | 15 => .array .int
  | 16 => .array .int
  | 17 => .array .int
  | 18 => .int
  | 19 => .array .int
  | 20 => .array .int
  | 21 => .array .int
  | 22 => .array .int
  | 23 => .array .int
  | 24 => .array .int
  | 25 => .array .int
  | 26 => .array .int
  | _ => .array .boolean
theorem nmX6 : ∀ a, a < 28 → ∀ b, b < 28 → a ≠ b → (TX6 a).2.1 ≠ (TX6 b).2.1 := by decide +kernel
theorem tyX6_ok : ∀ k, k < 28 → parseFieldDescriptor (TX6 k).2.2.1 = some (tyX6 k) := by decide +kernel
abbrev cX6_init : ByteArray := prog_8_method_1_code
def yX6_init : MethodName := ⟨RX6, "<init>", "()V"⟩
abbrev cX6_in : ByteArray := prog_8_method_3_code
def yX6_in : MethodName := ⟨RX6, "in", "(III)Z"⟩
abbrev cX6_finds : ByteArray := prog_8_method_4_code
def yX6_finds : MethodName := ⟨RX6, "finds", "(I)I"⟩
abbrev cX6_isBar : ByteArray := prog_8_method_5_code
def yX6_isBar : MethodName := ⟨RX6, "isBar", "(I)Z"⟩
abbrev cX6_isVoice : ByteArray := prog_8_method_6_code
def yX6_isVoice : MethodName := ⟨RX6, "isVoice", "(I)Z"⟩
abbrev cX6_isCut : ByteArray := prog_8_method_7_code
def yX6_isCut : MethodName := ⟨RX6, "isCut", "(I)Z"⟩
abbrev cX6_bar : ByteArray := prog_8_method_8_code
def yX6_bar : MethodName := ⟨RX6, "bar", "(I)I"⟩
abbrev cX6_voice : ByteArray := prog_8_method_9_code
def yX6_voice : MethodName := ⟨RX6, "voice", "(II)I"⟩
abbrev cX6_as : ByteArray := prog_8_method_10_code
def yX6_as : MethodName := ⟨RX6, "as", "(II)I"⟩
abbrev cX6_notes : ByteArray := prog_8_method_11_code
def yX6_notes : MethodName := ⟨RX6, "notes", "(IIII)I"⟩
abbrev cX6_sign : ByteArray := prog_8_method_12_code
def yX6_sign : MethodName := ⟨RX6, "sign", "(II)I"⟩
abbrev cX6_cut : ByteArray := prog_8_method_13_code
def yX6_cut : MethodName := ⟨RX6, "cut", "(III)I"⟩
abbrev cX6_stage : ByteArray := prog_8_method_14_code
def yX6_stage : MethodName := ⟨RX6, "stage", "(II)I"⟩
abbrev cX6_findRow : ByteArray := prog_8_method_15_code
def yX6_findRow : MethodName := ⟨RX6, "findRow", "()V"⟩
abbrev cX6_rests : ByteArray := prog_8_method_16_code
def yX6_rests : MethodName := ⟨RX6, "rests", "(II)Z"⟩
abbrev cX6_begins : ByteArray := prog_8_method_17_code
def yX6_begins : MethodName := ⟨RX6, "begins", "(II)Z"⟩
abbrev cX6_restsFrom : ByteArray := prog_8_method_18_code
def yX6_restsFrom : MethodName := ⟨RX6, "restsFrom", "(II)I"⟩
abbrev cX6_rest : ByteArray := prog_8_method_19_code
def yX6_rest : MethodName := ⟨RX6, "rest", "(II)I"⟩
abbrev cX6_cueAt : ByteArray := prog_8_method_20_code
def yX6_cueAt : MethodName := ⟨RX6, "cueAt", "(II)I"⟩
abbrev cX6_cue : ByteArray := prog_8_method_21_code
def yX6_cue : MethodName := ⟨RX6, "cue", "(II)I"⟩
abbrev cX6_key : ByteArray := prog_8_method_22_code
def yX6_key : MethodName := ⟨RX6, "key", "(I)I"⟩
abbrev cX6_written : ByteArray := prog_8_method_23_code
def yX6_written : MethodName := ⟨RX6, "written", "(I)I"⟩
abbrev cX6_due : ByteArray := prog_8_method_24_code
def yX6_due : MethodName := ⟨RX6, "due", "(I)I"⟩
abbrev cX6_paper : ByteArray := prog_8_method_25_code
def yX6_paper : MethodName := ⟨RX6, "paper", "(II)I"⟩
abbrev cX6_need : ByteArray := prog_8_method_26_code
def yX6_need : MethodName := ⟨RX6, "need", "(I)I"⟩
abbrev cX6_systemsOf : ByteArray := prog_8_method_27_code
def yX6_systemsOf : MethodName := ⟨RX6, "systemsOf", "(III)I"⟩
abbrev cX6_widthOf : ByteArray := prog_8_method_28_code
def yX6_widthOf : MethodName := ⟨RX6, "widthOf", "(IIZ)I"⟩
abbrev cX6_freeAt : ByteArray := prog_8_method_29_code
def yX6_freeAt : MethodName := ⟨RX6, "freeAt", "(II)I"⟩
abbrev cX6_isBad : ByteArray := prog_8_method_30_code
def yX6_isBad : MethodName := ⟨RX6, "isBad", "(II)Z"⟩
abbrev cX6_findPages : ByteArray := prog_8_method_31_code
def yX6_findPages : MethodName := ⟨RX6, "findPages", "(I)V"⟩
abbrev cX6_pages : ByteArray := prog_8_method_32_code
def yX6_pages : MethodName := ⟨RX6, "pages", "(II)I"⟩
abbrev cX6_pageAt : ByteArray := prog_8_method_33_code
def yX6_pageAt : MethodName := ⟨RX6, "pageAt", "(II)I"⟩
abbrev cX6_page : ByteArray := prog_8_method_34_code
def yX6_page : MethodName := ⟨RX6, "page", "(II)I"⟩
abbrev cX6_free : ByteArray := prog_8_method_35_code
def yX6_free : MethodName := ⟨RX6, "free", "(II)I"⟩
abbrev cX6_systems : ByteArray := prog_8_method_36_code
def yX6_systems : MethodName := ⟨RX6, "systems", "(II)I"⟩
abbrev cX6_lay : ByteArray := prog_8_method_37_code
def yX6_lay : MethodName := ⟨RX6, "lay", "(I)I"⟩
abbrev cX6_stale : ByteArray := prog_8_method_38_code
def yX6_stale : MethodName := ⟨RX6, "stale", "(I)I"⟩
abbrev cX6_tell : ByteArray := prog_8_method_39_code
def yX6_tell : MethodName := ⟨RX6, "tell", "(I)I"⟩
abbrev cX6_check : ByteArray := prog_8_method_40_code
def yX6_check : MethodName := ⟨RX6, "check", "(I)I"⟩
abbrev cX6_count : ByteArray := prog_8_method_41_code
def yX6_count : MethodName := ⟨RX6, "count", "(I)I"⟩
abbrev cX6_found : ByteArray := prog_8_method_42_code
def yX6_found : MethodName := ⟨RX6, "found", "(I)I"⟩
def RJ9 : String := "java/lang/Math"
def TJ9 : u_T := fun k => match k with
  | _ => ("", "", "", false)
def tyJ9 : Nat → FieldType := fun k => match k with
  | _ => .int
theorem nmJ9 : ∀ a, a < 0 → ∀ b, b < 0 → a ≠ b → (TJ9 a).2.1 ≠ (TJ9 b).2.1 := by decide +kernel
theorem tyJ9_ok : ∀ k, k < 0 → parseFieldDescriptor (TJ9 k).2.2.1 = some (tyJ9 k) := by decide +kernel
abbrev cJ9_floorMod_7cf53 : ByteArray := prog_9_method_50_code
def yJ9_floorMod_7cf53 : MethodName := ⟨RJ9, "floorMod", "(II)I"⟩
abbrev cJ9_min_7cf53 : ByteArray := prog_9_method_69_code
def yJ9_min_7cf53 : MethodName := ⟨RJ9, "min", "(II)I"⟩
def RL : String := "PartRoomLaw"
abbrev cL_law : ByteArray := code
def yL_law : MethodName := ⟨RL, "law", "([I)Z"⟩
abbrev vwCl : List vw_C := [(RX0, TX0, 10), (RX1, TX1, 6), (RX2, TX2, 5), (RX3, TX3, 2), (RX4, TX4, 8), (RX5, TX5, 10), (RX6, TX6, 28)]
end
section
abbrev wsT0 : List Cond := u_ws RX0 TX0 10
abbrev wsT1 : List Cond := u_ws RX1 TX1 6
abbrev wsT2 : List Cond := u_ws RX2 TX2 5
abbrev wsT3 : List Cond := u_ws RX3 TX3 2
abbrev wsT4 : List Cond := u_ws RX4 TX4 8
abbrev wsT5 : List Cond := u_ws RX5 TX5 10
abbrev wsT6 : List Cond := u_ws RX6 TX6 28
def lw_g : List Cond := lw_tbl.filter goodWord
theorem tb_mem {w : Cond} (i : Nat) (h : tables_1[i]? = some w) (hg : goodWord w = true) : w ∈ lw_g := List.mem_filter.mpr ⟨List.mem_append_right _ (List.mem_of_getElem? h), hg⟩
theorem tb_sel {w : Cond} (i : Nat) (h : (k2_sels lw_privs)[i]? = some w) (hg : goodWord w = true) : w ∈ lw_g := List.mem_filter.mpr ⟨List.mem_append_left _ (List.mem_of_getElem? h), hg⟩
theorem tb_good : ∀ w ∈ lw_g, goodWord w = true := fun w h => (List.mem_filter.mp h).2
theorem tb_in {y : MethodName} {b : ByteArray} {n : Nat} {r : Option FieldType} (h : Cond.code y b n r ∈ lw_g) : GoodIn lw_g (Cond.code y b n r :: lw_g) := fun w hw => (List.mem_cons.mp hw).elim (fun e => e ▸ ⟨h, good_of_word (tb_good _ h)⟩) (fun hw => ⟨hw, good_of_word (tb_good _ hw)⟩)
theorem inT0 : ∀ w ∈ wsT0, w ∈ lw_g := by decide +kernel
theorem inT1 : ∀ w ∈ wsT1, w ∈ lw_g := by decide +kernel
theorem inT2 : ∀ w ∈ wsT2, w ∈ lw_g := by decide +kernel
theorem inT3 : ∀ w ∈ wsT3, w ∈ lw_g := by decide +kernel
theorem inT4 : ∀ w ∈ wsT4, w ∈ lw_g := by decide +kernel
theorem inT5 : ∀ w ∈ wsT5, w ∈ lw_g := by decide +kernel
theorem inT6 : ∀ w ∈ wsT6, w ∈ lw_g := by decide +kernel
theorem tw0 : Cond.initialized "PartRoomLaw" ∈ lw_g := tb_mem 0 (by decide +kernel) (by decide +kernel)
theorem tw1 : Cond.initialized "PartRoom" ∈ lw_g := tb_mem 1 (by decide +kernel) (by decide +kernel)
theorem tw2 : Cond.initialized "PartRoom$Score" ∈ lw_g := tb_mem 2 (by decide +kernel) (by decide +kernel)
theorem tw3 : Cond.initialized "PartRoom$Part" ∈ lw_g := tb_mem 3 (by decide +kernel) (by decide +kernel)
theorem tw4 : Cond.initialized "PartRoom$Layout" ∈ lw_g := tb_mem 4 (by decide +kernel) (by decide +kernel)
theorem tw5 : Cond.initialized "PartRoom$Told" ∈ lw_g := tb_mem 5 (by decide +kernel) (by decide +kernel)
theorem tw6 : Cond.initialized "PartRoomModel" ∈ lw_g := tb_mem 6 (by decide +kernel) (by decide +kernel)
theorem tw7 : Cond.initialized "PartRoom$Voice" ∈ lw_g := tb_mem 7 (by decide +kernel) (by decide +kernel)
theorem tw8 : Cond.initialized "java/lang/Math" ∈ lw_g := tb_mem 8 (by decide +kernel) (by decide +kernel)
theorem tw9 : Cond.classLink "PartRoomLaw" (7 : Nat) "PartRoom" ∈ lw_g := tb_mem 9 (by decide +kernel) (by decide +kernel)
theorem tw10 : Cond.instantiable "PartRoom" (10 : Nat) ∈ lw_g := tb_mem 10 (by decide +kernel) (by decide +kernel)
theorem tw11 : Cond.methodLink "PartRoomLaw" (9 : Nat) ({ cls := "PartRoom", name := "<init>", desc := "()V" } : MethodName) ∈ lw_g := tb_mem 11 (by decide +kernel) (by decide +kernel)
theorem tw12 : Cond.instanceMethod ({ cls := "PartRoom", name := "<init>", desc := "()V" } : MethodName) ∈ lw_g := tb_mem 12 (by decide +kernel) (by decide +kernel)
theorem tw13 : Cond.code ({ cls := "PartRoom", name := "<init>", desc := "()V" } : MethodName) prog_1_method_1_code (1 : Nat) (Option.none : Option FieldType) ∈ lw_g := tb_mem 13 (by decide +kernel) (by decide +kernel)
theorem tw14 : Cond.methodLink "PartRoom" (3 : Nat) ({ cls := "java/lang/Object", name := "<init>", desc := "()V" } : MethodName) ∈ lw_g := tb_mem 14 (by decide +kernel) (by decide +kernel)
theorem tw15 : Cond.instanceMethod ({ cls := "java/lang/Object", name := "<init>", desc := "()V" } : MethodName) ∈ lw_g := tb_mem 15 (by decide +kernel) (by decide +kernel)
theorem tw16 : Cond.code ({ cls := "java/lang/Object", name := "<init>", desc := "()V" } : MethodName) object_method_1_code (1 : Nat) (Option.none : Option FieldType) ∈ lw_g := tb_mem 16 (by decide +kernel) (by decide +kernel)
theorem tw17 : Cond.classLink "PartRoom" (9 : Nat) "PartRoom$Score" ∈ lw_g := tb_mem 17 (by decide +kernel) (by decide +kernel)
theorem tw18 : Cond.instantiable "PartRoom$Score" (5 : Nat) ∈ lw_g := tb_mem 18 (by decide +kernel) (by decide +kernel)
theorem tw19 : Cond.methodLink "PartRoom" (11 : Nat) ({ cls := "PartRoom$Score", name := "<init>", desc := "()V" } : MethodName) ∈ lw_g := tb_mem 19 (by decide +kernel) (by decide +kernel)
theorem tw20 : Cond.instanceMethod ({ cls := "PartRoom$Score", name := "<init>", desc := "()V" } : MethodName) ∈ lw_g := tb_mem 20 (by decide +kernel) (by decide +kernel)
theorem tw21 : Cond.code ({ cls := "PartRoom$Score", name := "<init>", desc := "()V" } : MethodName) prog_4_method_1_code (1 : Nat) (Option.none : Option FieldType) ∈ lw_g := tb_mem 21 (by decide +kernel) (by decide +kernel)
theorem tw22 : Cond.methodLink "PartRoom$Score" (3 : Nat) ({ cls := "java/lang/Object", name := "<init>", desc := "()V" } : MethodName) ∈ lw_g := tb_mem 22 (by decide +kernel) (by decide +kernel)
theorem tw23 : Cond.classLink "PartRoom$Score" (18 : Nat) "PartRoom$Voice" ∈ lw_g := tb_mem 23 (by decide +kernel) (by decide +kernel)
theorem tn24 : Cond.arrayOver (FieldType.object "PartRoom$Voice") ∈ lw_tbl := List.mem_append_right _ (List.mem_of_getElem? (i := 24) (by decide +kernel))
theorem tw25 : Cond.fieldLink "PartRoom$Score" (9 : Nat) "PartRoom$Score" "seconds" "[I" ∈ lw_g := tb_mem 25 (by decide +kernel) (by decide +kernel)
theorem tn26 : Cond.fieldLinkNest "PartRoom$Part" (66 : Nat) "PartRoom$Score" "seconds" "[I" "PartRoom" ∈ lw_tbl := List.mem_append_right _ (List.mem_of_getElem? (i := 26) (by decide +kernel))
theorem tw27 : Cond.fieldLink "PartRoom$Score" (15 : Nat) "PartRoom$Score" "bits" "[I" ∈ lw_g := tb_mem 27 (by decide +kernel) (by decide +kernel)
theorem tn28 : Cond.fieldLinkNest "PartRoom$Voice" (44 : Nat) "PartRoom$Score" "bits" "[I" "PartRoom" ∈ lw_tbl := List.mem_append_right _ (List.mem_of_getElem? (i := 28) (by decide +kernel))
theorem tn29 : Cond.fieldLinkNest "PartRoom$Part" (48 : Nat) "PartRoom$Score" "bits" "[I" "PartRoom" ∈ lw_tbl := List.mem_append_right _ (List.mem_of_getElem? (i := 29) (by decide +kernel))
theorem tn30 : Cond.fieldLinkNest "PartRoom" (100 : Nat) "PartRoom$Score" "bits" "[I" "PartRoom" ∈ lw_tbl := List.mem_append_right _ (List.mem_of_getElem? (i := 30) (by decide +kernel))
theorem tw31 : Cond.fieldLink "PartRoom$Score" (20 : Nat) "PartRoom$Score" "voices" "[LPartRoom$Voice;" ∈ lw_g := tb_mem 31 (by decide +kernel) (by decide +kernel)
theorem tw32 : Cond.fieldLink "PartRoom$Score" (24 : Nat) "PartRoom$Score" "barCount" "I" ∈ lw_g := tb_mem 32 (by decide +kernel) (by decide +kernel)
theorem tn33 : Cond.fieldLinkNest "PartRoom" (171 : Nat) "PartRoom$Score" "barCount" "I" "PartRoom" ∈ lw_tbl := List.mem_append_right _ (List.mem_of_getElem? (i := 33) (by decide +kernel))
theorem tw34 : Cond.fieldLink "PartRoom$Score" (28 : Nat) "PartRoom$Score" "voiceCount" "I" ∈ lw_g := tb_mem 34 (by decide +kernel) (by decide +kernel)
theorem tn35 : Cond.fieldLinkNest "PartRoom$Part" (75 : Nat) "PartRoom$Score" "voiceCount" "I" "PartRoom" ∈ lw_tbl := List.mem_append_right _ (List.mem_of_getElem? (i := 35) (by decide +kernel))
theorem tn36 : Cond.fieldLinkNest "PartRoom" (174 : Nat) "PartRoom$Score" "voiceCount" "I" "PartRoom" ∈ lw_tbl := List.mem_append_right _ (List.mem_of_getElem? (i := 36) (by decide +kernel))
theorem tw37 : Cond.laysFinal "PartRoom$Score" "PartRoom$Score" "seconds" "[I" ∈ lw_g := tb_mem 37 (by decide +kernel) (by decide +kernel)
theorem tw38 : Cond.soleField "PartRoom$Score" "seconds" ∈ lw_g := tb_mem 38 (by decide +kernel) (by decide +kernel)
theorem tw39 : Cond.laysFinal "PartRoom$Score" "PartRoom$Score" "bits" "[I" ∈ lw_g := tb_mem 39 (by decide +kernel) (by decide +kernel)
theorem tw40 : Cond.soleField "PartRoom$Score" "bits" ∈ lw_g := tb_mem 40 (by decide +kernel) (by decide +kernel)
theorem tw41 : Cond.laysFinal "PartRoom$Score" "PartRoom$Score" "voices" "[LPartRoom$Voice;" ∈ lw_g := tb_mem 41 (by decide +kernel) (by decide +kernel)
theorem tw42 : Cond.soleField "PartRoom$Score" "voices" ∈ lw_g := tb_mem 42 (by decide +kernel) (by decide +kernel)
theorem tw43 : Cond.lays "PartRoom$Score" "PartRoom$Score" "barCount" "I" ∈ lw_g := tb_mem 43 (by decide +kernel) (by decide +kernel)
theorem tw44 : Cond.soleField "PartRoom$Score" "barCount" ∈ lw_g := tb_mem 44 (by decide +kernel) (by decide +kernel)
theorem tw45 : Cond.lays "PartRoom$Score" "PartRoom$Score" "voiceCount" "I" ∈ lw_g := tb_mem 45 (by decide +kernel) (by decide +kernel)
theorem tw46 : Cond.soleField "PartRoom$Score" "voiceCount" ∈ lw_g := tb_mem 46 (by decide +kernel) (by decide +kernel)
theorem tw47 : Cond.superclass "PartRoom$Score" "java/lang/Object" ∈ lw_g := tb_mem 47 (by decide +kernel) (by decide +kernel)
theorem tw48 : Cond.arrayClass FieldType.int ∈ lw_g := tb_mem 48 (by decide +kernel) (by decide +kernel)
theorem tw49 : Cond.classLink "PartRoom" (16 : Nat) "PartRoom$Part" ∈ lw_g := tb_mem 49 (by decide +kernel) (by decide +kernel)
theorem tw50 : Cond.instantiable "PartRoom$Part" (6 : Nat) ∈ lw_g := tb_mem 50 (by decide +kernel) (by decide +kernel)
theorem tw51 : Cond.methodLink "PartRoom" (18 : Nat) ({ cls := "PartRoom$Part", name := "<init>", desc := "(LPartRoom$Score;)V" } : MethodName) ∈ lw_g := tb_mem 51 (by decide +kernel) (by decide +kernel)
theorem tw52 : Cond.instanceMethod ({ cls := "PartRoom$Part", name := "<init>", desc := "(LPartRoom$Score;)V" } : MethodName) ∈ lw_g := tb_mem 52 (by decide +kernel) (by decide +kernel)
theorem tw53 : Cond.code ({ cls := "PartRoom$Part", name := "<init>", desc := "(LPartRoom$Score;)V" } : MethodName) prog_3_method_1_code (2 : Nat) (Option.none : Option FieldType) ∈ lw_g := tb_mem 53 (by decide +kernel) (by decide +kernel)
theorem tw54 : Cond.methodLink "PartRoom$Part" (3 : Nat) ({ cls := "java/lang/Object", name := "<init>", desc := "()V" } : MethodName) ∈ lw_g := tb_mem 54 (by decide +kernel) (by decide +kernel)
theorem tw55 : Cond.fieldLink "PartRoom$Part" (9 : Nat) "PartRoom$Part" "score" "LPartRoom$Score;" ∈ lw_g := tb_mem 55 (by decide +kernel) (by decide +kernel)
theorem tw56 : Cond.fieldLink "PartRoom$Part" (15 : Nat) "PartRoom$Part" "bars" "[I" ∈ lw_g := tb_mem 56 (by decide +kernel) (by decide +kernel)
theorem tw57 : Cond.fieldLink "PartRoom$Part" (19 : Nat) "PartRoom$Part" "notes" "[I" ∈ lw_g := tb_mem 57 (by decide +kernel) (by decide +kernel)
theorem tw58 : Cond.fieldLink "PartRoom$Part" (22 : Nat) "PartRoom$Part" "size" "I" ∈ lw_g := tb_mem 58 (by decide +kernel) (by decide +kernel)
theorem tn59 : Cond.fieldLinkNest "PartRoom$Layout" (50 : Nat) "PartRoom$Part" "size" "I" "PartRoom" ∈ lw_tbl := List.mem_append_right _ (List.mem_of_getElem? (i := 59) (by decide +kernel))
theorem tn60 : Cond.fieldLinkNest "PartRoom$Told" (20 : Nat) "PartRoom$Part" "size" "I" "PartRoom" ∈ lw_tbl := List.mem_append_right _ (List.mem_of_getElem? (i := 60) (by decide +kernel))
theorem tw61 : Cond.fieldLink "PartRoom$Part" (26 : Nat) "PartRoom$Part" "self" "I" ∈ lw_g := tb_mem 61 (by decide +kernel) (by decide +kernel)
theorem tw62 : Cond.fieldLink "PartRoom$Part" (29 : Nat) "PartRoom$Part" "due" "I" ∈ lw_g := tb_mem 62 (by decide +kernel) (by decide +kernel)
theorem tw63 : Cond.laysFinal "PartRoom$Part" "PartRoom$Part" "score" "LPartRoom$Score;" ∈ lw_g := tb_mem 63 (by decide +kernel) (by decide +kernel)
theorem tw64 : Cond.soleField "PartRoom$Part" "score" ∈ lw_g := tb_mem 64 (by decide +kernel) (by decide +kernel)
theorem tw65 : Cond.laysFinal "PartRoom$Part" "PartRoom$Part" "bars" "[I" ∈ lw_g := tb_mem 65 (by decide +kernel) (by decide +kernel)
theorem tw66 : Cond.soleField "PartRoom$Part" "bars" ∈ lw_g := tb_mem 66 (by decide +kernel) (by decide +kernel)
theorem tw67 : Cond.laysFinal "PartRoom$Part" "PartRoom$Part" "notes" "[I" ∈ lw_g := tb_mem 67 (by decide +kernel) (by decide +kernel)
theorem tw68 : Cond.soleField "PartRoom$Part" "notes" ∈ lw_g := tb_mem 68 (by decide +kernel) (by decide +kernel)
theorem tw69 : Cond.lays "PartRoom$Part" "PartRoom$Part" "size" "I" ∈ lw_g := tb_mem 69 (by decide +kernel) (by decide +kernel)
theorem tw70 : Cond.soleField "PartRoom$Part" "size" ∈ lw_g := tb_mem 70 (by decide +kernel) (by decide +kernel)
theorem tw71 : Cond.lays "PartRoom$Part" "PartRoom$Part" "self" "I" ∈ lw_g := tb_mem 71 (by decide +kernel) (by decide +kernel)
theorem tw72 : Cond.soleField "PartRoom$Part" "self" ∈ lw_g := tb_mem 72 (by decide +kernel) (by decide +kernel)
theorem tw73 : Cond.lays "PartRoom$Part" "PartRoom$Part" "due" "I" ∈ lw_g := tb_mem 73 (by decide +kernel) (by decide +kernel)
theorem tw74 : Cond.soleField "PartRoom$Part" "due" ∈ lw_g := tb_mem 74 (by decide +kernel) (by decide +kernel)
theorem tw75 : Cond.superclass "PartRoom$Part" "java/lang/Object" ∈ lw_g := tb_mem 75 (by decide +kernel) (by decide +kernel)
theorem tw76 : Cond.classLink "PartRoom" (25 : Nat) "PartRoom$Layout" ∈ lw_g := tb_mem 76 (by decide +kernel) (by decide +kernel)
theorem tw77 : Cond.instantiable "PartRoom$Layout" (10 : Nat) ∈ lw_g := tb_mem 77 (by decide +kernel) (by decide +kernel)
theorem tw78 : Cond.methodLink "PartRoom" (27 : Nat) ({ cls := "PartRoom$Layout", name := "<init>", desc := "(LPartRoom$Part;)V" } : MethodName) ∈ lw_g := tb_mem 78 (by decide +kernel) (by decide +kernel)
theorem tw79 : Cond.instanceMethod ({ cls := "PartRoom$Layout", name := "<init>", desc := "(LPartRoom$Part;)V" } : MethodName) ∈ lw_g := tb_mem 79 (by decide +kernel) (by decide +kernel)
theorem tw80 : Cond.code ({ cls := "PartRoom$Layout", name := "<init>", desc := "(LPartRoom$Part;)V" } : MethodName) prog_2_method_1_code (2 : Nat) (Option.none : Option FieldType) ∈ lw_g := tb_mem 80 (by decide +kernel) (by decide +kernel)
theorem tw81 : Cond.methodLink "PartRoom$Layout" (3 : Nat) ({ cls := "java/lang/Object", name := "<init>", desc := "()V" } : MethodName) ∈ lw_g := tb_mem 81 (by decide +kernel) (by decide +kernel)
theorem tw82 : Cond.fieldLink "PartRoom$Layout" (9 : Nat) "PartRoom$Layout" "part" "LPartRoom$Part;" ∈ lw_g := tb_mem 82 (by decide +kernel) (by decide +kernel)
theorem tw83 : Cond.fieldLink "PartRoom$Layout" (15 : Nat) "PartRoom$Layout" "widths" "[I" ∈ lw_g := tb_mem 83 (by decide +kernel) (by decide +kernel)
theorem tw84 : Cond.fieldLink "PartRoom$Layout" (19 : Nat) "PartRoom$Layout" "freeAhead" "[I" ∈ lw_g := tb_mem 84 (by decide +kernel) (by decide +kernel)
theorem tw85 : Cond.fieldLink "PartRoom$Layout" (22 : Nat) "PartRoom$Layout" "systemsTo" "[I" ∈ lw_g := tb_mem 85 (by decide +kernel) (by decide +kernel)
theorem tw86 : Cond.fieldLink "PartRoom$Layout" (25 : Nat) "PartRoom$Layout" "badFrom" "[I" ∈ lw_g := tb_mem 86 (by decide +kernel) (by decide +kernel)
theorem tw87 : Cond.fieldLink "PartRoom$Layout" (28 : Nat) "PartRoom$Layout" "pagesFrom" "[I" ∈ lw_g := tb_mem 87 (by decide +kernel) (by decide +kernel)
theorem tw88 : Cond.fieldLink "PartRoom$Layout" (31 : Nat) "PartRoom$Layout" "nextFrom" "[I" ∈ lw_g := tb_mem 88 (by decide +kernel) (by decide +kernel)
theorem tw89 : Cond.fieldLink "PartRoom$Layout" (34 : Nat) "PartRoom$Layout" "width" "I" ∈ lw_g := tb_mem 89 (by decide +kernel) (by decide +kernel)
theorem tw90 : Cond.fieldLink "PartRoom$Layout" (38 : Nat) "PartRoom$Layout" "lines" "I" ∈ lw_g := tb_mem 90 (by decide +kernel) (by decide +kernel)
theorem tw91 : Cond.fieldLink "PartRoom$Layout" (41 : Nat) "PartRoom$Layout" "need" "I" ∈ lw_g := tb_mem 91 (by decide +kernel) (by decide +kernel)
theorem tw92 : Cond.laysFinal "PartRoom$Layout" "PartRoom$Layout" "part" "LPartRoom$Part;" ∈ lw_g := tb_mem 92 (by decide +kernel) (by decide +kernel)
theorem tw93 : Cond.soleField "PartRoom$Layout" "part" ∈ lw_g := tb_mem 93 (by decide +kernel) (by decide +kernel)
theorem tw94 : Cond.laysFinal "PartRoom$Layout" "PartRoom$Layout" "widths" "[I" ∈ lw_g := tb_mem 94 (by decide +kernel) (by decide +kernel)
theorem tw95 : Cond.soleField "PartRoom$Layout" "widths" ∈ lw_g := tb_mem 95 (by decide +kernel) (by decide +kernel)
theorem tw96 : Cond.laysFinal "PartRoom$Layout" "PartRoom$Layout" "freeAhead" "[I" ∈ lw_g := tb_mem 96 (by decide +kernel) (by decide +kernel)
theorem tw97 : Cond.soleField "PartRoom$Layout" "freeAhead" ∈ lw_g := tb_mem 97 (by decide +kernel) (by decide +kernel)
theorem tw98 : Cond.laysFinal "PartRoom$Layout" "PartRoom$Layout" "systemsTo" "[I" ∈ lw_g := tb_mem 98 (by decide +kernel) (by decide +kernel)
theorem tw99 : Cond.soleField "PartRoom$Layout" "systemsTo" ∈ lw_g := tb_mem 99 (by decide +kernel) (by decide +kernel)
theorem tw100 : Cond.laysFinal "PartRoom$Layout" "PartRoom$Layout" "badFrom" "[I" ∈ lw_g := tb_mem 100 (by decide +kernel) (by decide +kernel)
theorem tw101 : Cond.soleField "PartRoom$Layout" "badFrom" ∈ lw_g := tb_mem 101 (by decide +kernel) (by decide +kernel)
theorem tw102 : Cond.laysFinal "PartRoom$Layout" "PartRoom$Layout" "pagesFrom" "[I" ∈ lw_g := tb_mem 102 (by decide +kernel) (by decide +kernel)
theorem tw103 : Cond.soleField "PartRoom$Layout" "pagesFrom" ∈ lw_g := tb_mem 103 (by decide +kernel) (by decide +kernel)
theorem tw104 : Cond.laysFinal "PartRoom$Layout" "PartRoom$Layout" "nextFrom" "[I" ∈ lw_g := tb_mem 104 (by decide +kernel) (by decide +kernel)
theorem tw105 : Cond.soleField "PartRoom$Layout" "nextFrom" ∈ lw_g := tb_mem 105 (by decide +kernel) (by decide +kernel)
theorem tw106 : Cond.lays "PartRoom$Layout" "PartRoom$Layout" "width" "I" ∈ lw_g := tb_mem 106 (by decide +kernel) (by decide +kernel)
theorem tw107 : Cond.soleField "PartRoom$Layout" "width" ∈ lw_g := tb_mem 107 (by decide +kernel) (by decide +kernel)
theorem tw108 : Cond.lays "PartRoom$Layout" "PartRoom$Layout" "lines" "I" ∈ lw_g := tb_mem 108 (by decide +kernel) (by decide +kernel)
theorem tw109 : Cond.soleField "PartRoom$Layout" "lines" ∈ lw_g := tb_mem 109 (by decide +kernel) (by decide +kernel)
theorem tw110 : Cond.lays "PartRoom$Layout" "PartRoom$Layout" "need" "I" ∈ lw_g := tb_mem 110 (by decide +kernel) (by decide +kernel)
theorem tw111 : Cond.soleField "PartRoom$Layout" "need" ∈ lw_g := tb_mem 111 (by decide +kernel) (by decide +kernel)
theorem tw112 : Cond.superclass "PartRoom$Layout" "java/lang/Object" ∈ lw_g := tb_mem 112 (by decide +kernel) (by decide +kernel)
theorem tw113 : Cond.classLink "PartRoom" (34 : Nat) "PartRoom$Told" ∈ lw_g := tb_mem 113 (by decide +kernel) (by decide +kernel)
theorem tw114 : Cond.instantiable "PartRoom$Told" (2 : Nat) ∈ lw_g := tb_mem 114 (by decide +kernel) (by decide +kernel)
theorem tw115 : Cond.methodLink "PartRoom" (36 : Nat) ({ cls := "PartRoom$Told", name := "<init>", desc := "()V" } : MethodName) ∈ lw_g := tb_mem 115 (by decide +kernel) (by decide +kernel)
theorem tw116 : Cond.instanceMethod ({ cls := "PartRoom$Told", name := "<init>", desc := "()V" } : MethodName) ∈ lw_g := tb_mem 116 (by decide +kernel) (by decide +kernel)
theorem tw117 : Cond.code ({ cls := "PartRoom$Told", name := "<init>", desc := "()V" } : MethodName) prog_5_method_1_code (1 : Nat) (Option.none : Option FieldType) ∈ lw_g := tb_mem 117 (by decide +kernel) (by decide +kernel)
theorem tw118 : Cond.methodLink "PartRoom$Told" (3 : Nat) ({ cls := "java/lang/Object", name := "<init>", desc := "()V" } : MethodName) ∈ lw_g := tb_mem 118 (by decide +kernel) (by decide +kernel)
theorem tw119 : Cond.fieldLink "PartRoom$Told" (9 : Nat) "PartRoom$Told" "numbers" "[I" ∈ lw_g := tb_mem 119 (by decide +kernel) (by decide +kernel)
theorem tw120 : Cond.fieldLink "PartRoom$Told" (15 : Nat) "PartRoom$Told" "waiting" "I" ∈ lw_g := tb_mem 120 (by decide +kernel) (by decide +kernel)
theorem tn121 : Cond.fieldLinkNest "PartRoom" (183 : Nat) "PartRoom$Told" "waiting" "I" "PartRoom" ∈ lw_tbl := List.mem_append_right _ (List.mem_of_getElem? (i := 121) (by decide +kernel))
theorem tw122 : Cond.laysFinal "PartRoom$Told" "PartRoom$Told" "numbers" "[I" ∈ lw_g := tb_mem 122 (by decide +kernel) (by decide +kernel)
theorem tw123 : Cond.soleField "PartRoom$Told" "numbers" ∈ lw_g := tb_mem 123 (by decide +kernel) (by decide +kernel)
theorem tw124 : Cond.lays "PartRoom$Told" "PartRoom$Told" "waiting" "I" ∈ lw_g := tb_mem 124 (by decide +kernel) (by decide +kernel)
theorem tw125 : Cond.soleField "PartRoom$Told" "waiting" ∈ lw_g := tb_mem 125 (by decide +kernel) (by decide +kernel)
theorem tw126 : Cond.superclass "PartRoom$Told" "java/lang/Object" ∈ lw_g := tb_mem 126 (by decide +kernel) (by decide +kernel)
theorem tw127 : Cond.fieldLink "PartRoom" (12 : Nat) "PartRoom" "score" "LPartRoom$Score;" ∈ lw_g := tb_mem 127 (by decide +kernel) (by decide +kernel)
theorem tw128 : Cond.fieldLink "PartRoom" (21 : Nat) "PartRoom" "part" "LPartRoom$Part;" ∈ lw_g := tb_mem 128 (by decide +kernel) (by decide +kernel)
theorem tw129 : Cond.fieldLink "PartRoom" (30 : Nat) "PartRoom" "layout" "LPartRoom$Layout;" ∈ lw_g := tb_mem 129 (by decide +kernel) (by decide +kernel)
theorem tw130 : Cond.fieldLink "PartRoom" (37 : Nat) "PartRoom" "told" "LPartRoom$Told;" ∈ lw_g := tb_mem 130 (by decide +kernel) (by decide +kernel)
theorem tw131 : Cond.fieldLink "PartRoom" (41 : Nat) "PartRoom" "findings" "[I" ∈ lw_g := tb_mem 131 (by decide +kernel) (by decide +kernel)
theorem tw132 : Cond.fieldLink "PartRoom" (45 : Nat) "PartRoom" "keyFifths" "I" ∈ lw_g := tb_mem 132 (by decide +kernel) (by decide +kernel)
theorem tw133 : Cond.fieldLink "PartRoom" (49 : Nat) "PartRoom" "dueBars" "I" ∈ lw_g := tb_mem 133 (by decide +kernel) (by decide +kernel)
theorem tw134 : Cond.fieldLink "PartRoom" (52 : Nat) "PartRoom" "paperWidth" "I" ∈ lw_g := tb_mem 134 (by decide +kernel) (by decide +kernel)
theorem tw135 : Cond.fieldLink "PartRoom" (55 : Nat) "PartRoom" "paperLines" "I" ∈ lw_g := tb_mem 135 (by decide +kernel) (by decide +kernel)
theorem tw136 : Cond.fieldLink "PartRoom" (58 : Nat) "PartRoom" "needSeconds" "I" ∈ lw_g := tb_mem 136 (by decide +kernel) (by decide +kernel)
theorem tw137 : Cond.laysFinal "PartRoom" "PartRoom" "score" "LPartRoom$Score;" ∈ lw_g := tb_mem 137 (by decide +kernel) (by decide +kernel)
theorem tw138 : Cond.soleField "PartRoom" "score" ∈ lw_g := tb_mem 138 (by decide +kernel) (by decide +kernel)
theorem tw139 : Cond.laysFinal "PartRoom" "PartRoom" "part" "LPartRoom$Part;" ∈ lw_g := tb_mem 139 (by decide +kernel) (by decide +kernel)
theorem tw140 : Cond.soleField "PartRoom" "part" ∈ lw_g := tb_mem 140 (by decide +kernel) (by decide +kernel)
theorem tw141 : Cond.laysFinal "PartRoom" "PartRoom" "layout" "LPartRoom$Layout;" ∈ lw_g := tb_mem 141 (by decide +kernel) (by decide +kernel)
theorem tw142 : Cond.soleField "PartRoom" "layout" ∈ lw_g := tb_mem 142 (by decide +kernel) (by decide +kernel)
theorem tw143 : Cond.laysFinal "PartRoom" "PartRoom" "told" "LPartRoom$Told;" ∈ lw_g := tb_mem 143 (by decide +kernel) (by decide +kernel)
theorem tw144 : Cond.soleField "PartRoom" "told" ∈ lw_g := tb_mem 144 (by decide +kernel) (by decide +kernel)
theorem tw145 : Cond.laysFinal "PartRoom" "PartRoom" "findings" "[I" ∈ lw_g := tb_mem 145 (by decide +kernel) (by decide +kernel)
theorem tw146 : Cond.soleField "PartRoom" "findings" ∈ lw_g := tb_mem 146 (by decide +kernel) (by decide +kernel)
theorem tw147 : Cond.lays "PartRoom" "PartRoom" "keyFifths" "I" ∈ lw_g := tb_mem 147 (by decide +kernel) (by decide +kernel)
theorem tw148 : Cond.soleField "PartRoom" "keyFifths" ∈ lw_g := tb_mem 148 (by decide +kernel) (by decide +kernel)
theorem tw149 : Cond.lays "PartRoom" "PartRoom" "dueBars" "I" ∈ lw_g := tb_mem 149 (by decide +kernel) (by decide +kernel)
theorem tw150 : Cond.soleField "PartRoom" "dueBars" ∈ lw_g := tb_mem 150 (by decide +kernel) (by decide +kernel)
theorem tw151 : Cond.lays "PartRoom" "PartRoom" "paperWidth" "I" ∈ lw_g := tb_mem 151 (by decide +kernel) (by decide +kernel)
theorem tw152 : Cond.soleField "PartRoom" "paperWidth" ∈ lw_g := tb_mem 152 (by decide +kernel) (by decide +kernel)
theorem tw153 : Cond.lays "PartRoom" "PartRoom" "paperLines" "I" ∈ lw_g := tb_mem 153 (by decide +kernel) (by decide +kernel)
theorem tw154 : Cond.soleField "PartRoom" "paperLines" ∈ lw_g := tb_mem 154 (by decide +kernel) (by decide +kernel)
theorem tw155 : Cond.lays "PartRoom" "PartRoom" "needSeconds" "I" ∈ lw_g := tb_mem 155 (by decide +kernel) (by decide +kernel)
theorem tw156 : Cond.soleField "PartRoom" "needSeconds" ∈ lw_g := tb_mem 156 (by decide +kernel) (by decide +kernel)
theorem tw157 : Cond.superclass "PartRoom" "java/lang/Object" ∈ lw_g := tb_mem 157 (by decide +kernel) (by decide +kernel)
theorem tw158 : Cond.methodLink "PartRoomLaw" (13 : Nat) ({ cls := "PartRoom", name := "bar", desc := "(I)I" } : MethodName) ∈ lw_g := tb_mem 158 (by decide +kernel) (by decide +kernel)
theorem tw159 : Cond.instanceMethod ({ cls := "PartRoom", name := "bar", desc := "(I)I" } : MethodName) ∈ lw_g := tb_mem 159 (by decide +kernel) (by decide +kernel)
theorem tw160 : Cond.selects "PartRoom" ({ cls := "PartRoom", name := "bar", desc := "(I)I" } : MethodName) ({ cls := "PartRoom", name := "bar", desc := "(I)I" } : MethodName) ∈ lw_g := tb_mem 160 (by decide +kernel) (by decide +kernel)
theorem tw161 : Cond.code ({ cls := "PartRoom", name := "bar", desc := "(I)I" } : MethodName) prog_1_method_2_code (2 : Nat) (Option.some FieldType.int) ∈ lw_g := tb_mem 161 (by decide +kernel) (by decide +kernel)
theorem tw162 : Cond.methodLink "PartRoom" (61 : Nat) ({ cls := "PartRoom", name := "within", desc := "(III)Z" } : MethodName) ∈ lw_g := tb_mem 162 (by decide +kernel) (by decide +kernel)
theorem tw163 : Cond.static ({ cls := "PartRoom", name := "within", desc := "(III)Z" } : MethodName) ∈ lw_g := tb_mem 163 (by decide +kernel) (by decide +kernel)
theorem tw164 : Cond.code ({ cls := "PartRoom", name := "within", desc := "(III)Z" } : MethodName) prog_1_method_26_code (3 : Nat) (Option.some FieldType.boolean) ∈ lw_g := tb_mem 164 (by decide +kernel) (by decide +kernel)
theorem tw165 : Cond.constant "PartRoom" (65 : Nat) (-1000001 : Int32) ∈ lw_g := tb_mem 165 (by decide +kernel) (by decide +kernel)
theorem tw166 : Cond.methodLink "PartRoom" (66 : Nat) ({ cls := "PartRoom", name := "answer", desc := "(I)I" } : MethodName) ∈ lw_g := tb_mem 166 (by decide +kernel) (by decide +kernel)
theorem tw168 : Cond.instanceMethod ({ cls := "PartRoom", name := "answer", desc := "(I)I" } : MethodName) ∈ lw_g := tb_mem 168 (by decide +kernel) (by decide +kernel)
theorem tw169 : Cond.code ({ cls := "PartRoom", name := "answer", desc := "(I)I" } : MethodName) prog_1_method_27_code (2 : Nat) (Option.some FieldType.int) ∈ lw_g := tb_mem 169 (by decide +kernel) (by decide +kernel)
theorem tw170 : Cond.constant "PartRoom" (90 : Nat) (-1000005 : Int32) ∈ lw_g := tb_mem 170 (by decide +kernel) (by decide +kernel)
theorem tw171 : Cond.constant "PartRoom" (189 : Nat) (-1000000 : Int32) ∈ lw_g := tb_mem 171 (by decide +kernel) (by decide +kernel)
theorem tw172 : Cond.methodLink "PartRoom" (70 : Nat) ({ cls := "PartRoom$Score", name := "addBar", desc := "(I)I" } : MethodName) ∈ lw_g := tb_mem 172 (by decide +kernel) (by decide +kernel)
theorem tw173 : Cond.instanceMethod ({ cls := "PartRoom$Score", name := "addBar", desc := "(I)I" } : MethodName) ∈ lw_g := tb_mem 173 (by decide +kernel) (by decide +kernel)
theorem tw174 : Cond.selects "PartRoom$Score" ({ cls := "PartRoom$Score", name := "addBar", desc := "(I)I" } : MethodName) ({ cls := "PartRoom$Score", name := "addBar", desc := "(I)I" } : MethodName) ∈ lw_g := tb_mem 174 (by decide +kernel) (by decide +kernel)
theorem tw175 : Cond.code ({ cls := "PartRoom$Score", name := "addBar", desc := "(I)I" } : MethodName) prog_4_method_2_code (2 : Nat) (Option.some FieldType.int) ∈ lw_g := tb_mem 175 (by decide +kernel) (by decide +kernel)
theorem tw176 : Cond.constant "PartRoom$Score" (31 : Nat) (-1000004 : Int32) ∈ lw_g := tb_mem 176 (by decide +kernel) (by decide +kernel)
theorem tw177 : Cond.methodLink "PartRoomLaw" (18 : Nat) ({ cls := "PartRoom", name := "voice", desc := "(II)I" } : MethodName) ∈ lw_g := tb_mem 177 (by decide +kernel) (by decide +kernel)
theorem tw178 : Cond.instanceMethod ({ cls := "PartRoom", name := "voice", desc := "(II)I" } : MethodName) ∈ lw_g := tb_mem 178 (by decide +kernel) (by decide +kernel)
theorem tw179 : Cond.selects "PartRoom" ({ cls := "PartRoom", name := "voice", desc := "(II)I" } : MethodName) ({ cls := "PartRoom", name := "voice", desc := "(II)I" } : MethodName) ∈ lw_g := tb_mem 179 (by decide +kernel) (by decide +kernel)
theorem tw180 : Cond.code ({ cls := "PartRoom", name := "voice", desc := "(II)I" } : MethodName) prog_1_method_3_code (4 : Nat) (Option.some FieldType.int) ∈ lw_g := tb_mem 180 (by decide +kernel) (by decide +kernel)
theorem tw181 : Cond.methodLink "PartRoom" (73 : Nat) ({ cls := "PartRoom$Score", name := "addVoice", desc := "(II)I" } : MethodName) ∈ lw_g := tb_mem 181 (by decide +kernel) (by decide +kernel)
theorem tw182 : Cond.instanceMethod ({ cls := "PartRoom$Score", name := "addVoice", desc := "(II)I" } : MethodName) ∈ lw_g := tb_mem 182 (by decide +kernel) (by decide +kernel)
theorem tw183 : Cond.selects "PartRoom$Score" ({ cls := "PartRoom$Score", name := "addVoice", desc := "(II)I" } : MethodName) ({ cls := "PartRoom$Score", name := "addVoice", desc := "(II)I" } : MethodName) ∈ lw_g := tb_mem 183 (by decide +kernel) (by decide +kernel)
theorem tw184 : Cond.code ({ cls := "PartRoom$Score", name := "addVoice", desc := "(II)I" } : MethodName) prog_4_method_3_code (3 : Nat) (Option.some FieldType.int) ∈ lw_g := tb_mem 184 (by decide +kernel) (by decide +kernel)
theorem tw185 : Cond.instantiable "PartRoom$Voice" (8 : Nat) ∈ lw_g := tb_mem 185 (by decide +kernel) (by decide +kernel)
theorem tw186 : Cond.methodLink "PartRoom$Score" (32 : Nat) ({ cls := "PartRoom$Voice", name := "<init>", desc := "(II)V" } : MethodName) ∈ lw_g := tb_mem 186 (by decide +kernel) (by decide +kernel)
theorem tw187 : Cond.instanceMethod ({ cls := "PartRoom$Voice", name := "<init>", desc := "(II)V" } : MethodName) ∈ lw_g := tb_mem 187 (by decide +kernel) (by decide +kernel)
theorem tw188 : Cond.code ({ cls := "PartRoom$Voice", name := "<init>", desc := "(II)V" } : MethodName) prog_6_method_1_code (3 : Nat) (Option.none : Option FieldType) ∈ lw_g := tb_mem 188 (by decide +kernel) (by decide +kernel)
theorem tw189 : Cond.methodLink "PartRoom$Voice" (3 : Nat) ({ cls := "java/lang/Object", name := "<init>", desc := "()V" } : MethodName) ∈ lw_g := tb_mem 189 (by decide +kernel) (by decide +kernel)
theorem tw190 : Cond.fieldLink "PartRoom$Voice" (9 : Nat) "PartRoom$Voice" "kind" "I" ∈ lw_g := tb_mem 190 (by decide +kernel) (by decide +kernel)
theorem tw191 : Cond.fieldLink "PartRoom$Voice" (15 : Nat) "PartRoom$Voice" "shift" "I" ∈ lw_g := tb_mem 191 (by decide +kernel) (by decide +kernel)
theorem tn192 : Cond.fieldLinkNest "PartRoom" (87 : Nat) "PartRoom$Voice" "shift" "I" "PartRoom" ∈ lw_tbl := List.mem_append_right _ (List.mem_of_getElem? (i := 192) (by decide +kernel))
theorem tw193 : Cond.fieldLink "PartRoom$Voice" (18 : Nat) "PartRoom$Voice" "notes" "[I" ∈ lw_g := tb_mem 193 (by decide +kernel) (by decide +kernel)
theorem tn194 : Cond.fieldLinkNest "PartRoom$Part" (42 : Nat) "PartRoom$Voice" "notes" "[I" "PartRoom" ∈ lw_tbl := List.mem_append_right _ (List.mem_of_getElem? (i := 194) (by decide +kernel))
theorem tn195 : Cond.fieldLinkNest "PartRoom" (94 : Nat) "PartRoom$Voice" "notes" "[I" "PartRoom" ∈ lw_tbl := List.mem_append_right _ (List.mem_of_getElem? (i := 195) (by decide +kernel))
theorem tw196 : Cond.fieldLink "PartRoom$Voice" (22 : Nat) "PartRoom$Voice" "loud" "[I" ∈ lw_g := tb_mem 196 (by decide +kernel) (by decide +kernel)
theorem tn197 : Cond.fieldLinkNest "PartRoom" (97 : Nat) "PartRoom$Voice" "loud" "[I" "PartRoom" ∈ lw_tbl := List.mem_append_right _ (List.mem_of_getElem? (i := 197) (by decide +kernel))
theorem tn198 : Cond.fieldLinkNest "PartRoom$Part" (91 : Nat) "PartRoom$Voice" "loud" "[I" "PartRoom" ∈ lw_tbl := List.mem_append_right _ (List.mem_of_getElem? (i := 198) (by decide +kernel))
theorem tw199 : Cond.fieldLink "PartRoom$Voice" (25 : Nat) "PartRoom$Voice" "onStage" "Z" ∈ lw_g := tb_mem 199 (by decide +kernel) (by decide +kernel)
theorem tn200 : Cond.fieldLinkNest "PartRoom" (107 : Nat) "PartRoom$Voice" "onStage" "Z" "PartRoom" ∈ lw_tbl := List.mem_append_right _ (List.mem_of_getElem? (i := 200) (by decide +kernel))
theorem tn201 : Cond.fieldLinkNest "PartRoom$Part" (82 : Nat) "PartRoom$Voice" "onStage" "Z" "PartRoom" ∈ lw_tbl := List.mem_append_right _ (List.mem_of_getElem? (i := 201) (by decide +kernel))
theorem tw202 : Cond.fieldLink "PartRoom$Voice" (29 : Nat) "PartRoom$Voice" "laidFirsts" "[I" ∈ lw_g := tb_mem 202 (by decide +kernel) (by decide +kernel)
theorem tw203 : Cond.fieldLink "PartRoom$Voice" (32 : Nat) "PartRoom$Voice" "laidMarks" "[I" ∈ lw_g := tb_mem 203 (by decide +kernel) (by decide +kernel)
theorem tw204 : Cond.fieldLink "PartRoom$Voice" (35 : Nat) "PartRoom$Voice" "laidPages" "I" ∈ lw_g := tb_mem 204 (by decide +kernel) (by decide +kernel)
theorem tn205 : Cond.fieldLinkNest "PartRoom$Score" (42 : Nat) "PartRoom$Voice" "laidPages" "I" "PartRoom" ∈ lw_tbl := List.mem_append_right _ (List.mem_of_getElem? (i := 205) (by decide +kernel))
theorem tn206 : Cond.fieldLinkNest "PartRoom" (154 : Nat) "PartRoom$Voice" "laidPages" "I" "PartRoom" ∈ lw_tbl := List.mem_append_right _ (List.mem_of_getElem? (i := 206) (by decide +kernel))
theorem tw207 : Cond.laysFinal "PartRoom$Voice" "PartRoom$Voice" "kind" "I" ∈ lw_g := tb_mem 207 (by decide +kernel) (by decide +kernel)
theorem tw208 : Cond.soleField "PartRoom$Voice" "kind" ∈ lw_g := tb_mem 208 (by decide +kernel) (by decide +kernel)
theorem tw209 : Cond.laysFinal "PartRoom$Voice" "PartRoom$Voice" "shift" "I" ∈ lw_g := tb_mem 209 (by decide +kernel) (by decide +kernel)
theorem tw210 : Cond.soleField "PartRoom$Voice" "shift" ∈ lw_g := tb_mem 210 (by decide +kernel) (by decide +kernel)
theorem tw211 : Cond.laysFinal "PartRoom$Voice" "PartRoom$Voice" "notes" "[I" ∈ lw_g := tb_mem 211 (by decide +kernel) (by decide +kernel)
theorem tw212 : Cond.soleField "PartRoom$Voice" "notes" ∈ lw_g := tb_mem 212 (by decide +kernel) (by decide +kernel)
theorem tw213 : Cond.laysFinal "PartRoom$Voice" "PartRoom$Voice" "loud" "[I" ∈ lw_g := tb_mem 213 (by decide +kernel) (by decide +kernel)
theorem tw214 : Cond.soleField "PartRoom$Voice" "loud" ∈ lw_g := tb_mem 214 (by decide +kernel) (by decide +kernel)
theorem tw215 : Cond.lays "PartRoom$Voice" "PartRoom$Voice" "onStage" "Z" ∈ lw_g := tb_mem 215 (by decide +kernel) (by decide +kernel)
theorem tw216 : Cond.soleField "PartRoom$Voice" "onStage" ∈ lw_g := tb_mem 216 (by decide +kernel) (by decide +kernel)
theorem tw217 : Cond.laysFinal "PartRoom$Voice" "PartRoom$Voice" "laidFirsts" "[I" ∈ lw_g := tb_mem 217 (by decide +kernel) (by decide +kernel)
theorem tw218 : Cond.soleField "PartRoom$Voice" "laidFirsts" ∈ lw_g := tb_mem 218 (by decide +kernel) (by decide +kernel)
theorem tw219 : Cond.laysFinal "PartRoom$Voice" "PartRoom$Voice" "laidMarks" "[I" ∈ lw_g := tb_mem 219 (by decide +kernel) (by decide +kernel)
theorem tw220 : Cond.soleField "PartRoom$Voice" "laidMarks" ∈ lw_g := tb_mem 220 (by decide +kernel) (by decide +kernel)
theorem tw221 : Cond.lays "PartRoom$Voice" "PartRoom$Voice" "laidPages" "I" ∈ lw_g := tb_mem 221 (by decide +kernel) (by decide +kernel)
theorem tw222 : Cond.soleField "PartRoom$Voice" "laidPages" ∈ lw_g := tb_mem 222 (by decide +kernel) (by decide +kernel)
theorem tw223 : Cond.superclass "PartRoom$Voice" "java/lang/Object" ∈ lw_g := tb_mem 223 (by decide +kernel) (by decide +kernel)
theorem tw224 : Cond.methodLink "PartRoomLaw" (23 : Nat) ({ cls := "PartRoom", name := "as", desc := "(II)I" } : MethodName) ∈ lw_g := tb_mem 224 (by decide +kernel) (by decide +kernel)
theorem tw225 : Cond.instanceMethod ({ cls := "PartRoom", name := "as", desc := "(II)I" } : MethodName) ∈ lw_g := tb_mem 225 (by decide +kernel) (by decide +kernel)
theorem tw226 : Cond.selects "PartRoom" ({ cls := "PartRoom", name := "as", desc := "(II)I" } : MethodName) ({ cls := "PartRoom", name := "as", desc := "(II)I" } : MethodName) ∈ lw_g := tb_mem 226 (by decide +kernel) (by decide +kernel)
theorem tw227 : Cond.code ({ cls := "PartRoom", name := "as", desc := "(II)I" } : MethodName) prog_1_method_4_code (4 : Nat) (Option.some FieldType.int) ∈ lw_g := tb_mem 227 (by decide +kernel) (by decide +kernel)
theorem tw228 : Cond.methodLink "PartRoom" (77 : Nat) ({ cls := "PartRoom$Score", name := "voiceAt", desc := "(I)LPartRoom$Voice;" } : MethodName) ∈ lw_g := tb_mem 228 (by decide +kernel) (by decide +kernel)
theorem tw229 : Cond.instanceMethod ({ cls := "PartRoom$Score", name := "voiceAt", desc := "(I)LPartRoom$Voice;" } : MethodName) ∈ lw_g := tb_mem 229 (by decide +kernel) (by decide +kernel)
theorem tw230 : Cond.selects "PartRoom$Score" ({ cls := "PartRoom$Score", name := "voiceAt", desc := "(I)LPartRoom$Voice;" } : MethodName) ({ cls := "PartRoom$Score", name := "voiceAt", desc := "(I)LPartRoom$Voice;" } : MethodName) ∈ lw_g := tb_mem 230 (by decide +kernel) (by decide +kernel)
theorem tw231 : Cond.code ({ cls := "PartRoom$Score", name := "voiceAt", desc := "(I)LPartRoom$Voice;" } : MethodName) prog_4_method_6_code (2 : Nat) (Option.some (FieldType.object "PartRoom$Voice")) ∈ lw_g := tb_mem 231 (by decide +kernel) (by decide +kernel)
theorem tw232 : Cond.methodLink "PartRoom" (81 : Nat) ({ cls := "PartRoom$Voice", name := "isOf", desc := "(I)Z" } : MethodName) ∈ lw_g := tb_mem 232 (by decide +kernel) (by decide +kernel)
theorem tw233 : Cond.instanceMethod ({ cls := "PartRoom$Voice", name := "isOf", desc := "(I)Z" } : MethodName) ∈ lw_g := tb_mem 233 (by decide +kernel) (by decide +kernel)
theorem tw234 : Cond.selects "PartRoom$Voice" ({ cls := "PartRoom$Voice", name := "isOf", desc := "(I)Z" } : MethodName) ({ cls := "PartRoom$Voice", name := "isOf", desc := "(I)Z" } : MethodName) ∈ lw_g := tb_mem 234 (by decide +kernel) (by decide +kernel)
theorem tw235 : Cond.code ({ cls := "PartRoom$Voice", name := "isOf", desc := "(I)Z" } : MethodName) prog_6_method_2_code (2 : Nat) (Option.some FieldType.boolean) ∈ lw_g := tb_mem 235 (by decide +kernel) (by decide +kernel)
theorem tw236 : Cond.methodLink "PartRoomLaw" (27 : Nat) ({ cls := "PartRoom", name := "notes", desc := "(IIII)I" } : MethodName) ∈ lw_g := tb_mem 236 (by decide +kernel) (by decide +kernel)
theorem tw237 : Cond.instanceMethod ({ cls := "PartRoom", name := "notes", desc := "(IIII)I" } : MethodName) ∈ lw_g := tb_mem 237 (by decide +kernel) (by decide +kernel)
theorem tw238 : Cond.selects "PartRoom" ({ cls := "PartRoom", name := "notes", desc := "(IIII)I" } : MethodName) ({ cls := "PartRoom", name := "notes", desc := "(IIII)I" } : MethodName) ∈ lw_g := tb_mem 238 (by decide +kernel) (by decide +kernel)
theorem tw239 : Cond.code ({ cls := "PartRoom", name := "notes", desc := "(IIII)I" } : MethodName) prog_1_method_5_code (7 : Nat) (Option.some FieldType.int) ∈ lw_g := tb_mem 239 (by decide +kernel) (by decide +kernel)
theorem tw240 : Cond.methodLink "PartRoom" (91 : Nat) ({ cls := "PartRoom$Score", name := "hasBar", desc := "(I)Z" } : MethodName) ∈ lw_g := tb_mem 240 (by decide +kernel) (by decide +kernel)
theorem tw241 : Cond.instanceMethod ({ cls := "PartRoom$Score", name := "hasBar", desc := "(I)Z" } : MethodName) ∈ lw_g := tb_mem 241 (by decide +kernel) (by decide +kernel)
theorem tw242 : Cond.selects "PartRoom$Score" ({ cls := "PartRoom$Score", name := "hasBar", desc := "(I)Z" } : MethodName) ({ cls := "PartRoom$Score", name := "hasBar", desc := "(I)Z" } : MethodName) ∈ lw_g := tb_mem 242 (by decide +kernel) (by decide +kernel)
theorem tw243 : Cond.code ({ cls := "PartRoom$Score", name := "hasBar", desc := "(I)Z" } : MethodName) prog_4_method_4_code (2 : Nat) (Option.some FieldType.boolean) ∈ lw_g := tb_mem 243 (by decide +kernel) (by decide +kernel)
theorem tw244 : Cond.methodLink "PartRoomLaw" (32 : Nat) ({ cls := "PartRoom", name := "sign", desc := "(II)I" } : MethodName) ∈ lw_g := tb_mem 244 (by decide +kernel) (by decide +kernel)
theorem tw245 : Cond.instanceMethod ({ cls := "PartRoom", name := "sign", desc := "(II)I" } : MethodName) ∈ lw_g := tb_mem 245 (by decide +kernel) (by decide +kernel)
theorem tw246 : Cond.selects "PartRoom" ({ cls := "PartRoom", name := "sign", desc := "(II)I" } : MethodName) ({ cls := "PartRoom", name := "sign", desc := "(II)I" } : MethodName) ∈ lw_g := tb_mem 246 (by decide +kernel) (by decide +kernel)
theorem tw247 : Cond.code ({ cls := "PartRoom", name := "sign", desc := "(II)I" } : MethodName) prog_1_method_6_code (4 : Nat) (Option.some FieldType.int) ∈ lw_g := tb_mem 247 (by decide +kernel) (by decide +kernel)
theorem tw248 : Cond.methodLink "PartRoomLaw" (36 : Nat) ({ cls := "PartRoom", name := "cut", desc := "(III)I" } : MethodName) ∈ lw_g := tb_mem 248 (by decide +kernel) (by decide +kernel)
theorem tw249 : Cond.instanceMethod ({ cls := "PartRoom", name := "cut", desc := "(III)I" } : MethodName) ∈ lw_g := tb_mem 249 (by decide +kernel) (by decide +kernel)
theorem tw250 : Cond.selects "PartRoom" ({ cls := "PartRoom", name := "cut", desc := "(III)I" } : MethodName) ({ cls := "PartRoom", name := "cut", desc := "(III)I" } : MethodName) ∈ lw_g := tb_mem 250 (by decide +kernel) (by decide +kernel)
theorem tw251 : Cond.code ({ cls := "PartRoom", name := "cut", desc := "(III)I" } : MethodName) prog_1_method_7_code (4 : Nat) (Option.some FieldType.int) ∈ lw_g := tb_mem 251 (by decide +kernel) (by decide +kernel)
theorem tw252 : Cond.methodLink "PartRoom" (103 : Nat) ({ cls := "PartRoom$Score", name := "setCut", desc := "(IIZ)I" } : MethodName) ∈ lw_g := tb_mem 252 (by decide +kernel) (by decide +kernel)
theorem tw253 : Cond.instanceMethod ({ cls := "PartRoom$Score", name := "setCut", desc := "(IIZ)I" } : MethodName) ∈ lw_g := tb_mem 253 (by decide +kernel) (by decide +kernel)
theorem tw254 : Cond.selects "PartRoom$Score" ({ cls := "PartRoom$Score", name := "setCut", desc := "(IIZ)I" } : MethodName) ({ cls := "PartRoom$Score", name := "setCut", desc := "(IIZ)I" } : MethodName) ∈ lw_g := tb_mem 254 (by decide +kernel) (by decide +kernel)
theorem tw255 : Cond.code ({ cls := "PartRoom$Score", name := "setCut", desc := "(IIZ)I" } : MethodName) prog_4_method_7_code (6 : Nat) (Option.some FieldType.int) ∈ lw_g := tb_mem 255 (by decide +kernel) (by decide +kernel)
theorem tw256 : Cond.methodLink "PartRoom$Score" (39 : Nat) ({ cls := "PartRoom$Score", name := "isThere", desc := "(I)Z" } : MethodName) ∈ lw_g := tb_mem 256 (by decide +kernel) (by decide +kernel)
theorem tw257 : Cond.instanceMethod ({ cls := "PartRoom$Score", name := "isThere", desc := "(I)Z" } : MethodName) ∈ lw_g := tb_mem 257 (by decide +kernel) (by decide +kernel)
theorem tw258 : Cond.selects "PartRoom$Score" ({ cls := "PartRoom$Score", name := "isThere", desc := "(I)Z" } : MethodName) ({ cls := "PartRoom$Score", name := "isThere", desc := "(I)Z" } : MethodName) ∈ lw_g := tb_mem 258 (by decide +kernel) (by decide +kernel)
theorem tw259 : Cond.code ({ cls := "PartRoom$Score", name := "isThere", desc := "(I)Z" } : MethodName) prog_4_method_5_code (2 : Nat) (Option.some FieldType.boolean) ∈ lw_g := tb_mem 259 (by decide +kernel) (by decide +kernel)
theorem tw260 : Cond.methodLink "PartRoom$Score" (35 : Nat) ({ cls := "PartRoom$Score", name := "hasBar", desc := "(I)Z" } : MethodName) ∈ lw_g := tb_mem 260 (by decide +kernel) (by decide +kernel)
theorem tw261 : Cond.methodLink "PartRoomLaw" (41 : Nat) ({ cls := "PartRoom", name := "stage", desc := "(II)I" } : MethodName) ∈ lw_g := tb_mem 261 (by decide +kernel) (by decide +kernel)
theorem tw262 : Cond.instanceMethod ({ cls := "PartRoom", name := "stage", desc := "(II)I" } : MethodName) ∈ lw_g := tb_mem 262 (by decide +kernel) (by decide +kernel)
theorem tw263 : Cond.selects "PartRoom" ({ cls := "PartRoom", name := "stage", desc := "(II)I" } : MethodName) ({ cls := "PartRoom", name := "stage", desc := "(II)I" } : MethodName) ∈ lw_g := tb_mem 263 (by decide +kernel) (by decide +kernel)
theorem tw264 : Cond.code ({ cls := "PartRoom", name := "stage", desc := "(II)I" } : MethodName) prog_1_method_8_code (5 : Nat) (Option.some FieldType.int) ∈ lw_g := tb_mem 264 (by decide +kernel) (by decide +kernel)
theorem tw265 : Cond.methodLink "PartRoomLaw" (45 : Nat) ({ cls := "PartRoom", name := "rest", desc := "(II)I" } : MethodName) ∈ lw_g := tb_mem 265 (by decide +kernel) (by decide +kernel)
theorem tw266 : Cond.instanceMethod ({ cls := "PartRoom", name := "rest", desc := "(II)I" } : MethodName) ∈ lw_g := tb_mem 266 (by decide +kernel) (by decide +kernel)
theorem tw267 : Cond.selects "PartRoom" ({ cls := "PartRoom", name := "rest", desc := "(II)I" } : MethodName) ({ cls := "PartRoom", name := "rest", desc := "(II)I" } : MethodName) ∈ lw_g := tb_mem 267 (by decide +kernel) (by decide +kernel)
theorem tw268 : Cond.code ({ cls := "PartRoom", name := "rest", desc := "(II)I" } : MethodName) prog_1_method_9_code (3 : Nat) (Option.some FieldType.int) ∈ lw_g := tb_mem 268 (by decide +kernel) (by decide +kernel)
theorem tw269 : Cond.methodLink "PartRoom" (111 : Nat) ({ cls := "PartRoom$Part", name := "draw", desc := "(II)V" } : MethodName) ∈ lw_g := tb_mem 269 (by decide +kernel) (by decide +kernel)
theorem tw270 : Cond.instanceMethod ({ cls := "PartRoom$Part", name := "draw", desc := "(II)V" } : MethodName) ∈ lw_g := tb_mem 270 (by decide +kernel) (by decide +kernel)
theorem tw271 : Cond.selects "PartRoom$Part" ({ cls := "PartRoom$Part", name := "draw", desc := "(II)V" } : MethodName) ({ cls := "PartRoom$Part", name := "draw", desc := "(II)V" } : MethodName) ∈ lw_g := tb_mem 271 (by decide +kernel) (by decide +kernel)
theorem tw272 : Cond.code ({ cls := "PartRoom$Part", name := "draw", desc := "(II)V" } : MethodName) prog_3_method_2_code (5 : Nat) (Option.none : Option FieldType) ∈ lw_g := tb_mem 272 (by decide +kernel) (by decide +kernel)
theorem tw273 : Cond.methodLink "PartRoom$Part" (32 : Nat) ({ cls := "PartRoom$Score", name := "voiceAt", desc := "(I)LPartRoom$Voice;" } : MethodName) ∈ lw_g := tb_mem 273 (by decide +kernel) (by decide +kernel)
theorem tw274 : Cond.methodLink "PartRoom$Part" (38 : Nat) ({ cls := "PartRoom$Score", name := "isThere", desc := "(I)Z" } : MethodName) ∈ lw_g := tb_mem 274 (by decide +kernel) (by decide +kernel)
theorem tw275 : Cond.methodLink "PartRoom" (115 : Nat) ({ cls := "PartRoom$Part", name := "restsAt", desc := "(I)I" } : MethodName) ∈ lw_g := tb_mem 275 (by decide +kernel) (by decide +kernel)
theorem tw276 : Cond.instanceMethod ({ cls := "PartRoom$Part", name := "restsAt", desc := "(I)I" } : MethodName) ∈ lw_g := tb_mem 276 (by decide +kernel) (by decide +kernel)
theorem tw277 : Cond.selects "PartRoom$Part" ({ cls := "PartRoom$Part", name := "restsAt", desc := "(I)I" } : MethodName) ({ cls := "PartRoom$Part", name := "restsAt", desc := "(I)I" } : MethodName) ∈ lw_g := tb_mem 277 (by decide +kernel) (by decide +kernel)
theorem tw278 : Cond.code ({ cls := "PartRoom$Part", name := "restsAt", desc := "(I)I" } : MethodName) prog_3_method_9_code (4 : Nat) (Option.some FieldType.int) ∈ lw_g := tb_mem 278 (by decide +kernel) (by decide +kernel)
theorem tw279 : Cond.methodLink "PartRoom$Part" (58 : Nat) ({ cls := "PartRoom$Part", name := "opensRests", desc := "(I)Z" } : MethodName) ∈ lw_g := tb_mem 279 (by decide +kernel) (by decide +kernel)
theorem tw280 : Cond.instanceMethod ({ cls := "PartRoom$Part", name := "opensRests", desc := "(I)Z" } : MethodName) ∈ lw_g := tb_mem 280 (by decide +kernel) (by decide +kernel)
theorem tw281 : Cond.selects "PartRoom$Part" ({ cls := "PartRoom$Part", name := "opensRests", desc := "(I)Z" } : MethodName) ({ cls := "PartRoom$Part", name := "opensRests", desc := "(I)Z" } : MethodName) ∈ lw_g := tb_mem 281 (by decide +kernel) (by decide +kernel)
theorem tw282 : Cond.code ({ cls := "PartRoom$Part", name := "opensRests", desc := "(I)Z" } : MethodName) prog_3_method_7_code (2 : Nat) (Option.some FieldType.boolean) ∈ lw_g := tb_mem 282 (by decide +kernel) (by decide +kernel)
theorem tw283 : Cond.methodLink "PartRoom$Part" (51 : Nat) ({ cls := "PartRoom$Part", name := "rests", desc := "(I)Z" } : MethodName) ∈ lw_g := tb_mem 283 (by decide +kernel) (by decide +kernel)
theorem tw284 : Cond.instanceMethod ({ cls := "PartRoom$Part", name := "rests", desc := "(I)Z" } : MethodName) ∈ lw_g := tb_mem 284 (by decide +kernel) (by decide +kernel)
theorem tw285 : Cond.selects "PartRoom$Part" ({ cls := "PartRoom$Part", name := "rests", desc := "(I)Z" } : MethodName) ({ cls := "PartRoom$Part", name := "rests", desc := "(I)Z" } : MethodName) ∈ lw_g := tb_mem 285 (by decide +kernel) (by decide +kernel)
theorem tw286 : Cond.code ({ cls := "PartRoom$Part", name := "rests", desc := "(I)Z" } : MethodName) prog_3_method_4_code (2 : Nat) (Option.some FieldType.boolean) ∈ lw_g := tb_mem 286 (by decide +kernel) (by decide +kernel)
theorem tw287 : Cond.methodLink "PartRoom$Part" (54 : Nat) ({ cls := "PartRoom$Part", name := "bears", desc := "(II)Z" } : MethodName) ∈ lw_g := tb_mem 287 (by decide +kernel) (by decide +kernel)
theorem tw289 : Cond.instanceMethod ({ cls := "PartRoom$Part", name := "bears", desc := "(II)Z" } : MethodName) ∈ lw_g := tb_mem 289 (by decide +kernel) (by decide +kernel)
theorem tw290 : Cond.code ({ cls := "PartRoom$Part", name := "bears", desc := "(II)Z" } : MethodName) prog_3_method_6_code (3 : Nat) (Option.some FieldType.boolean) ∈ lw_g := tb_mem 290 (by decide +kernel) (by decide +kernel)
theorem tw291 : Cond.methodLink "PartRoom$Part" (45 : Nat) ({ cls := "PartRoom$Part", name := "has", desc := "(I)Z" } : MethodName) ∈ lw_g := tb_mem 291 (by decide +kernel) (by decide +kernel)
theorem tw293 : Cond.instanceMethod ({ cls := "PartRoom$Part", name := "has", desc := "(I)Z" } : MethodName) ∈ lw_g := tb_mem 293 (by decide +kernel) (by decide +kernel)
theorem tw294 : Cond.code ({ cls := "PartRoom$Part", name := "has", desc := "(I)Z" } : MethodName) prog_3_method_3_code (2 : Nat) (Option.some FieldType.boolean) ∈ lw_g := tb_mem 294 (by decide +kernel) (by decide +kernel)
theorem tw295 : Cond.methodLink "PartRoom$Part" (61 : Nat) ({ cls := "PartRoom$Part", name := "restsLength", desc := "(I)I" } : MethodName) ∈ lw_g := tb_mem 295 (by decide +kernel) (by decide +kernel)
theorem tw296 : Cond.instanceMethod ({ cls := "PartRoom$Part", name := "restsLength", desc := "(I)I" } : MethodName) ∈ lw_g := tb_mem 296 (by decide +kernel) (by decide +kernel)
theorem tw297 : Cond.selects "PartRoom$Part" ({ cls := "PartRoom$Part", name := "restsLength", desc := "(I)I" } : MethodName) ({ cls := "PartRoom$Part", name := "restsLength", desc := "(I)I" } : MethodName) ∈ lw_g := tb_mem 297 (by decide +kernel) (by decide +kernel)
theorem tw298 : Cond.code ({ cls := "PartRoom$Part", name := "restsLength", desc := "(I)I" } : MethodName) prog_3_method_8_code (4 : Nat) (Option.some FieldType.int) ∈ lw_g := tb_mem 298 (by decide +kernel) (by decide +kernel)
theorem tw299 : Cond.constant "PartRoom$Part" (65 : Nat) (-1000002 : Int32) ∈ lw_g := tb_mem 299 (by decide +kernel) (by decide +kernel)
theorem tw300 : Cond.methodLink "PartRoomLaw" (49 : Nat) ({ cls := "PartRoom", name := "cue", desc := "(II)I" } : MethodName) ∈ lw_g := tb_mem 300 (by decide +kernel) (by decide +kernel)
theorem tw301 : Cond.instanceMethod ({ cls := "PartRoom", name := "cue", desc := "(II)I" } : MethodName) ∈ lw_g := tb_mem 301 (by decide +kernel) (by decide +kernel)
theorem tw302 : Cond.selects "PartRoom" ({ cls := "PartRoom", name := "cue", desc := "(II)I" } : MethodName) ({ cls := "PartRoom", name := "cue", desc := "(II)I" } : MethodName) ∈ lw_g := tb_mem 302 (by decide +kernel) (by decide +kernel)
theorem tw303 : Cond.code ({ cls := "PartRoom", name := "cue", desc := "(II)I" } : MethodName) prog_1_method_10_code (3 : Nat) (Option.some FieldType.int) ∈ lw_g := tb_mem 303 (by decide +kernel) (by decide +kernel)
theorem tw304 : Cond.methodLink "PartRoom" (118 : Nat) ({ cls := "PartRoom$Part", name := "placeOf", desc := "(I)I" } : MethodName) ∈ lw_g := tb_mem 304 (by decide +kernel) (by decide +kernel)
theorem tw305 : Cond.instanceMethod ({ cls := "PartRoom$Part", name := "placeOf", desc := "(I)I" } : MethodName) ∈ lw_g := tb_mem 305 (by decide +kernel) (by decide +kernel)
theorem tw306 : Cond.selects "PartRoom$Part" ({ cls := "PartRoom$Part", name := "placeOf", desc := "(I)I" } : MethodName) ({ cls := "PartRoom$Part", name := "placeOf", desc := "(I)I" } : MethodName) ∈ lw_g := tb_mem 306 (by decide +kernel) (by decide +kernel)
theorem tw307 : Cond.code ({ cls := "PartRoom$Part", name := "placeOf", desc := "(I)I" } : MethodName) prog_3_method_10_code (3 : Nat) (Option.some FieldType.int) ∈ lw_g := tb_mem 307 (by decide +kernel) (by decide +kernel)
theorem tw308 : Cond.methodLink "PartRoom" (121 : Nat) ({ cls := "PartRoom$Part", name := "cueAt", desc := "(I)I" } : MethodName) ∈ lw_g := tb_mem 308 (by decide +kernel) (by decide +kernel)
theorem tw309 : Cond.instanceMethod ({ cls := "PartRoom$Part", name := "cueAt", desc := "(I)I" } : MethodName) ∈ lw_g := tb_mem 309 (by decide +kernel) (by decide +kernel)
theorem tw310 : Cond.selects "PartRoom$Part" ({ cls := "PartRoom$Part", name := "cueAt", desc := "(I)I" } : MethodName) ({ cls := "PartRoom$Part", name := "cueAt", desc := "(I)I" } : MethodName) ∈ lw_g := tb_mem 310 (by decide +kernel) (by decide +kernel)
theorem tw311 : Cond.code ({ cls := "PartRoom$Part", name := "cueAt", desc := "(I)I" } : MethodName) prog_3_method_14_code (6 : Nat) (Option.some FieldType.int) ∈ lw_g := tb_mem 311 (by decide +kernel) (by decide +kernel)
theorem tw312 : Cond.methodLink "PartRoom$Part" (69 : Nat) ({ cls := "PartRoom$Part", name := "plays", desc := "(I)Z" } : MethodName) ∈ lw_g := tb_mem 312 (by decide +kernel) (by decide +kernel)
theorem tw313 : Cond.instanceMethod ({ cls := "PartRoom$Part", name := "plays", desc := "(I)Z" } : MethodName) ∈ lw_g := tb_mem 313 (by decide +kernel) (by decide +kernel)
theorem tw314 : Cond.selects "PartRoom$Part" ({ cls := "PartRoom$Part", name := "plays", desc := "(I)Z" } : MethodName) ({ cls := "PartRoom$Part", name := "plays", desc := "(I)Z" } : MethodName) ∈ lw_g := tb_mem 314 (by decide +kernel) (by decide +kernel)
theorem tw315 : Cond.code ({ cls := "PartRoom$Part", name := "plays", desc := "(I)Z" } : MethodName) prog_3_method_5_code (2 : Nat) (Option.some FieldType.boolean) ∈ lw_g := tb_mem 315 (by decide +kernel) (by decide +kernel)
theorem tw316 : Cond.methodLink "PartRoom$Part" (72 : Nat) ({ cls := "PartRoom$Part", name := "restsAhead", desc := "(I)Z" } : MethodName) ∈ lw_g := tb_mem 316 (by decide +kernel) (by decide +kernel)
theorem tw318 : Cond.instanceMethod ({ cls := "PartRoom$Part", name := "restsAhead", desc := "(I)Z" } : MethodName) ∈ lw_g := tb_mem 318 (by decide +kernel) (by decide +kernel)
theorem tw319 : Cond.code ({ cls := "PartRoom$Part", name := "restsAhead", desc := "(I)Z" } : MethodName) prog_3_method_15_code (3 : Nat) (Option.some FieldType.boolean) ∈ lw_g := tb_mem 319 (by decide +kernel) (by decide +kernel)
theorem tw320 : Cond.methodLink "PartRoom$Part" (78 : Nat) ({ cls := "PartRoom$Part", name := "heardAhead", desc := "(II)I" } : MethodName) ∈ lw_g := tb_mem 320 (by decide +kernel) (by decide +kernel)
theorem tw322 : Cond.instanceMethod ({ cls := "PartRoom$Part", name := "heardAhead", desc := "(II)I" } : MethodName) ∈ lw_g := tb_mem 322 (by decide +kernel) (by decide +kernel)
theorem tw323 : Cond.code ({ cls := "PartRoom$Part", name := "heardAhead", desc := "(II)I" } : MethodName) prog_3_method_16_code (6 : Nat) (Option.some FieldType.int) ∈ lw_g := tb_mem 323 (by decide +kernel) (by decide +kernel)
theorem tw324 : Cond.methodLink "PartRoom$Part" (86 : Nat) ({ cls := "java/lang/Math", name := "min", desc := "(II)I" } : MethodName) ∈ lw_g := tb_mem 324 (by decide +kernel) (by decide +kernel)
theorem tw325 : Cond.static ({ cls := "java/lang/Math", name := "min", desc := "(II)I" } : MethodName) ∈ lw_g := tb_mem 325 (by decide +kernel) (by decide +kernel)
theorem tw326 : Cond.code ({ cls := "java/lang/Math", name := "min", desc := "(II)I" } : MethodName) prog_9_method_69_code (2 : Nat) (Option.some FieldType.int) ∈ lw_g := tb_mem 326 (by decide +kernel) (by decide +kernel)
theorem tw327 : Cond.methodLink "PartRoomLaw" (53 : Nat) ({ cls := "PartRoom", name := "key", desc := "(I)I" } : MethodName) ∈ lw_g := tb_mem 327 (by decide +kernel) (by decide +kernel)
theorem tw328 : Cond.instanceMethod ({ cls := "PartRoom", name := "key", desc := "(I)I" } : MethodName) ∈ lw_g := tb_mem 328 (by decide +kernel) (by decide +kernel)
theorem tw329 : Cond.selects "PartRoom" ({ cls := "PartRoom", name := "key", desc := "(I)I" } : MethodName) ({ cls := "PartRoom", name := "key", desc := "(I)I" } : MethodName) ∈ lw_g := tb_mem 329 (by decide +kernel) (by decide +kernel)
theorem tw330 : Cond.code ({ cls := "PartRoom", name := "key", desc := "(I)I" } : MethodName) prog_1_method_11_code (3 : Nat) (Option.some FieldType.int) ∈ lw_g := tb_mem 330 (by decide +kernel) (by decide +kernel)
theorem tw331 : Cond.methodLink "PartRoomLaw" (57 : Nat) ({ cls := "PartRoom", name := "written", desc := "(I)I" } : MethodName) ∈ lw_g := tb_mem 331 (by decide +kernel) (by decide +kernel)
theorem tw332 : Cond.instanceMethod ({ cls := "PartRoom", name := "written", desc := "(I)I" } : MethodName) ∈ lw_g := tb_mem 332 (by decide +kernel) (by decide +kernel)
theorem tw333 : Cond.selects "PartRoom" ({ cls := "PartRoom", name := "written", desc := "(I)I" } : MethodName) ({ cls := "PartRoom", name := "written", desc := "(I)I" } : MethodName) ∈ lw_g := tb_mem 333 (by decide +kernel) (by decide +kernel)
theorem tw334 : Cond.code ({ cls := "PartRoom", name := "written", desc := "(I)I" } : MethodName) prog_1_method_12_code (3 : Nat) (Option.some FieldType.int) ∈ lw_g := tb_mem 334 (by decide +kernel) (by decide +kernel)
theorem tw335 : Cond.methodLink "PartRoom" (124 : Nat) ({ cls := "java/lang/Math", name := "floorMod", desc := "(II)I" } : MethodName) ∈ lw_g := tb_mem 335 (by decide +kernel) (by decide +kernel)
theorem tw336 : Cond.static ({ cls := "java/lang/Math", name := "floorMod", desc := "(II)I" } : MethodName) ∈ lw_g := tb_mem 336 (by decide +kernel) (by decide +kernel)
theorem tw337 : Cond.code ({ cls := "java/lang/Math", name := "floorMod", desc := "(II)I" } : MethodName) prog_9_method_50_code (3 : Nat) (Option.some FieldType.int) ∈ lw_g := tb_mem 337 (by decide +kernel) (by decide +kernel)
theorem tw338 : Cond.methodLink "PartRoomLaw" (61 : Nat) ({ cls := "PartRoom", name := "due", desc := "(I)I" } : MethodName) ∈ lw_g := tb_mem 338 (by decide +kernel) (by decide +kernel)
theorem tw339 : Cond.instanceMethod ({ cls := "PartRoom", name := "due", desc := "(I)I" } : MethodName) ∈ lw_g := tb_mem 339 (by decide +kernel) (by decide +kernel)
theorem tw340 : Cond.selects "PartRoom" ({ cls := "PartRoom", name := "due", desc := "(I)I" } : MethodName) ({ cls := "PartRoom", name := "due", desc := "(I)I" } : MethodName) ∈ lw_g := tb_mem 340 (by decide +kernel) (by decide +kernel)
theorem tw341 : Cond.code ({ cls := "PartRoom", name := "due", desc := "(I)I" } : MethodName) prog_1_method_13_code (3 : Nat) (Option.some FieldType.int) ∈ lw_g := tb_mem 341 (by decide +kernel) (by decide +kernel)
theorem tw342 : Cond.methodLink "PartRoomLaw" (65 : Nat) ({ cls := "PartRoom", name := "paper", desc := "(II)I" } : MethodName) ∈ lw_g := tb_mem 342 (by decide +kernel) (by decide +kernel)
theorem tw343 : Cond.instanceMethod ({ cls := "PartRoom", name := "paper", desc := "(II)I" } : MethodName) ∈ lw_g := tb_mem 343 (by decide +kernel) (by decide +kernel)
theorem tw344 : Cond.selects "PartRoom" ({ cls := "PartRoom", name := "paper", desc := "(II)I" } : MethodName) ({ cls := "PartRoom", name := "paper", desc := "(II)I" } : MethodName) ∈ lw_g := tb_mem 344 (by decide +kernel) (by decide +kernel)
theorem tw345 : Cond.code ({ cls := "PartRoom", name := "paper", desc := "(II)I" } : MethodName) prog_1_method_14_code (3 : Nat) (Option.some FieldType.int) ∈ lw_g := tb_mem 345 (by decide +kernel) (by decide +kernel)
theorem tw346 : Cond.methodLink "PartRoomLaw" (69 : Nat) ({ cls := "PartRoom", name := "need", desc := "(I)I" } : MethodName) ∈ lw_g := tb_mem 346 (by decide +kernel) (by decide +kernel)
theorem tw347 : Cond.instanceMethod ({ cls := "PartRoom", name := "need", desc := "(I)I" } : MethodName) ∈ lw_g := tb_mem 347 (by decide +kernel) (by decide +kernel)
theorem tw348 : Cond.selects "PartRoom" ({ cls := "PartRoom", name := "need", desc := "(I)I" } : MethodName) ({ cls := "PartRoom", name := "need", desc := "(I)I" } : MethodName) ∈ lw_g := tb_mem 348 (by decide +kernel) (by decide +kernel)
theorem tw349 : Cond.code ({ cls := "PartRoom", name := "need", desc := "(I)I" } : MethodName) prog_1_method_15_code (3 : Nat) (Option.some FieldType.int) ∈ lw_g := tb_mem 349 (by decide +kernel) (by decide +kernel)
theorem tw350 : Cond.methodLink "PartRoomLaw" (73 : Nat) ({ cls := "PartRoom", name := "pages", desc := "(II)I" } : MethodName) ∈ lw_g := tb_mem 350 (by decide +kernel) (by decide +kernel)
theorem tw351 : Cond.instanceMethod ({ cls := "PartRoom", name := "pages", desc := "(II)I" } : MethodName) ∈ lw_g := tb_mem 351 (by decide +kernel) (by decide +kernel)
theorem tw352 : Cond.selects "PartRoom" ({ cls := "PartRoom", name := "pages", desc := "(II)I" } : MethodName) ({ cls := "PartRoom", name := "pages", desc := "(II)I" } : MethodName) ∈ lw_g := tb_mem 352 (by decide +kernel) (by decide +kernel)
theorem tw353 : Cond.code ({ cls := "PartRoom", name := "pages", desc := "(II)I" } : MethodName) prog_1_method_16_code (4 : Nat) (Option.some FieldType.int) ∈ lw_g := tb_mem 353 (by decide +kernel) (by decide +kernel)
theorem tw354 : Cond.methodLink "PartRoom" (129 : Nat) ({ cls := "PartRoom", name := "plan", desc := "(ILPartRoom$Voice;)V" } : MethodName) ∈ lw_g := tb_mem 354 (by decide +kernel) (by decide +kernel)
theorem tw356 : Cond.instanceMethod ({ cls := "PartRoom", name := "plan", desc := "(ILPartRoom$Voice;)V" } : MethodName) ∈ lw_g := tb_mem 356 (by decide +kernel) (by decide +kernel)
theorem tw357 : Cond.code ({ cls := "PartRoom", name := "plan", desc := "(ILPartRoom$Voice;)V" } : MethodName) prog_1_method_28_code (3 : Nat) (Option.none : Option FieldType) ∈ lw_g := tb_mem 357 (by decide +kernel) (by decide +kernel)
theorem tw358 : Cond.methodLink "PartRoom" (190 : Nat) ({ cls := "PartRoom$Voice", name := "needOf", desc := "(I)I" } : MethodName) ∈ lw_g := tb_mem 358 (by decide +kernel) (by decide +kernel)
theorem tw359 : Cond.instanceMethod ({ cls := "PartRoom$Voice", name := "needOf", desc := "(I)I" } : MethodName) ∈ lw_g := tb_mem 359 (by decide +kernel) (by decide +kernel)
theorem tw360 : Cond.selects "PartRoom$Voice" ({ cls := "PartRoom$Voice", name := "needOf", desc := "(I)I" } : MethodName) ({ cls := "PartRoom$Voice", name := "needOf", desc := "(I)I" } : MethodName) ∈ lw_g := tb_mem 360 (by decide +kernel) (by decide +kernel)
theorem tw361 : Cond.code ({ cls := "PartRoom$Voice", name := "needOf", desc := "(I)I" } : MethodName) prog_6_method_3_code (2 : Nat) (Option.some FieldType.int) ∈ lw_g := tb_mem 361 (by decide +kernel) (by decide +kernel)
theorem tw362 : Cond.methodLink "PartRoom" (193 : Nat) ({ cls := "PartRoom$Layout", name := "plan", desc := "(III)V" } : MethodName) ∈ lw_g := tb_mem 362 (by decide +kernel) (by decide +kernel)
theorem tw363 : Cond.instanceMethod ({ cls := "PartRoom$Layout", name := "plan", desc := "(III)V" } : MethodName) ∈ lw_g := tb_mem 363 (by decide +kernel) (by decide +kernel)
theorem tw364 : Cond.selects "PartRoom$Layout" ({ cls := "PartRoom$Layout", name := "plan", desc := "(III)V" } : MethodName) ({ cls := "PartRoom$Layout", name := "plan", desc := "(III)V" } : MethodName) ∈ lw_g := tb_mem 364 (by decide +kernel) (by decide +kernel)
theorem tw365 : Cond.code ({ cls := "PartRoom$Layout", name := "plan", desc := "(III)V" } : MethodName) prog_2_method_2_code (6 : Nat) (Option.none : Option FieldType) ∈ lw_g := tb_mem 365 (by decide +kernel) (by decide +kernel)
theorem tw366 : Cond.methodLink "PartRoom$Layout" (44 : Nat) ({ cls := "PartRoom$Layout", name := "measure", desc := "()V" } : MethodName) ∈ lw_g := tb_mem 366 (by decide +kernel) (by decide +kernel)
theorem tw368 : Cond.instanceMethod ({ cls := "PartRoom$Layout", name := "measure", desc := "()V" } : MethodName) ∈ lw_g := tb_mem 368 (by decide +kernel) (by decide +kernel)
theorem tw369 : Cond.code ({ cls := "PartRoom$Layout", name := "measure", desc := "()V" } : MethodName) prog_2_method_3_code (2 : Nat) (Option.none : Option FieldType) ∈ lw_g := tb_mem 369 (by decide +kernel) (by decide +kernel)
theorem tw370 : Cond.methodLink "PartRoom$Layout" (59 : Nat) ({ cls := "PartRoom$Part", name := "plays", desc := "(I)Z" } : MethodName) ∈ lw_g := tb_mem 370 (by decide +kernel) (by decide +kernel)
theorem tw371 : Cond.methodLink "PartRoom$Layout" (63 : Nat) ({ cls := "PartRoom$Part", name := "notesAt", desc := "(I)I" } : MethodName) ∈ lw_g := tb_mem 371 (by decide +kernel) (by decide +kernel)
theorem tw372 : Cond.instanceMethod ({ cls := "PartRoom$Part", name := "notesAt", desc := "(I)I" } : MethodName) ∈ lw_g := tb_mem 372 (by decide +kernel) (by decide +kernel)
theorem tw373 : Cond.selects "PartRoom$Part" ({ cls := "PartRoom$Part", name := "notesAt", desc := "(I)I" } : MethodName) ({ cls := "PartRoom$Part", name := "notesAt", desc := "(I)I" } : MethodName) ∈ lw_g := tb_mem 373 (by decide +kernel) (by decide +kernel)
theorem tw374 : Cond.code ({ cls := "PartRoom$Part", name := "notesAt", desc := "(I)I" } : MethodName) prog_3_method_13_code (2 : Nat) (Option.some FieldType.int) ∈ lw_g := tb_mem 374 (by decide +kernel) (by decide +kernel)
theorem tw375 : Cond.methodLink "PartRoom$Layout" (67 : Nat) ({ cls := "PartRoom$Part", name := "cueAt", desc := "(I)I" } : MethodName) ∈ lw_g := tb_mem 375 (by decide +kernel) (by decide +kernel)
theorem tw376 : Cond.methodLink "PartRoom$Layout" (70 : Nat) ({ cls := "PartRoom$Part", name := "opensRests", desc := "(I)Z" } : MethodName) ∈ lw_g := tb_mem 376 (by decide +kernel) (by decide +kernel)
theorem tw377 : Cond.methodLink "PartRoom$Layout" (47 : Nat) ({ cls := "PartRoom$Layout", name := "timeTurns", desc := "()V" } : MethodName) ∈ lw_g := tb_mem 377 (by decide +kernel) (by decide +kernel)
theorem tw379 : Cond.instanceMethod ({ cls := "PartRoom$Layout", name := "timeTurns", desc := "()V" } : MethodName) ∈ lw_g := tb_mem 379 (by decide +kernel) (by decide +kernel)
theorem tw380 : Cond.code ({ cls := "PartRoom$Layout", name := "timeTurns", desc := "()V" } : MethodName) prog_2_method_4_code (4 : Nat) (Option.none : Option FieldType) ∈ lw_g := tb_mem 380 (by decide +kernel) (by decide +kernel)
theorem tw381 : Cond.methodLink "PartRoom$Layout" (73 : Nat) ({ cls := "PartRoom$Part", name := "rests", desc := "(I)Z" } : MethodName) ∈ lw_g := tb_mem 381 (by decide +kernel) (by decide +kernel)
theorem tw382 : Cond.methodLink "PartRoom$Layout" (76 : Nat) ({ cls := "PartRoom$Part", name := "secondsAt", desc := "(I)I" } : MethodName) ∈ lw_g := tb_mem 382 (by decide +kernel) (by decide +kernel)
theorem tw383 : Cond.instanceMethod ({ cls := "PartRoom$Part", name := "secondsAt", desc := "(I)I" } : MethodName) ∈ lw_g := tb_mem 383 (by decide +kernel) (by decide +kernel)
theorem tw384 : Cond.selects "PartRoom$Part" ({ cls := "PartRoom$Part", name := "secondsAt", desc := "(I)I" } : MethodName) ({ cls := "PartRoom$Part", name := "secondsAt", desc := "(I)I" } : MethodName) ∈ lw_g := tb_mem 384 (by decide +kernel) (by decide +kernel)
theorem tw385 : Cond.code ({ cls := "PartRoom$Part", name := "secondsAt", desc := "(I)I" } : MethodName) prog_3_method_12_code (2 : Nat) (Option.some FieldType.int) ∈ lw_g := tb_mem 385 (by decide +kernel) (by decide +kernel)
theorem tw386 : Cond.methodLink "PartRoom$Layout" (55 : Nat) ({ cls := "PartRoom$Layout", name := "chooseFrom", desc := "(I)V" } : MethodName) ∈ lw_g := tb_mem 386 (by decide +kernel) (by decide +kernel)
theorem tw388 : Cond.instanceMethod ({ cls := "PartRoom$Layout", name := "chooseFrom", desc := "(I)V" } : MethodName) ∈ lw_g := tb_mem 388 (by decide +kernel) (by decide +kernel)
theorem tw389 : Cond.code ({ cls := "PartRoom$Layout", name := "chooseFrom", desc := "(I)V" } : MethodName) prog_2_method_7_code (7 : Nat) (Option.none : Option FieldType) ∈ lw_g := tb_mem 389 (by decide +kernel) (by decide +kernel)
theorem tw390 : Cond.methodLink "PartRoom$Layout" (82 : Nat) ({ cls := "PartRoom$Layout", name := "fill", desc := "(I)I" } : MethodName) ∈ lw_g := tb_mem 390 (by decide +kernel) (by decide +kernel)
theorem tw392 : Cond.instanceMethod ({ cls := "PartRoom$Layout", name := "fill", desc := "(I)I" } : MethodName) ∈ lw_g := tb_mem 392 (by decide +kernel) (by decide +kernel)
theorem tw393 : Cond.code ({ cls := "PartRoom$Layout", name := "fill", desc := "(I)I" } : MethodName) prog_2_method_6_code (5 : Nat) (Option.some FieldType.int) ∈ lw_g := tb_mem 393 (by decide +kernel) (by decide +kernel)
theorem tw394 : Cond.methodLink "PartRoom$Layout" (79 : Nat) ({ cls := "PartRoom$Layout", name := "widthAsFirst", desc := "(I)I" } : MethodName) ∈ lw_g := tb_mem 394 (by decide +kernel) (by decide +kernel)
theorem tw396 : Cond.instanceMethod ({ cls := "PartRoom$Layout", name := "widthAsFirst", desc := "(I)I" } : MethodName) ∈ lw_g := tb_mem 396 (by decide +kernel) (by decide +kernel)
theorem tw397 : Cond.code ({ cls := "PartRoom$Layout", name := "widthAsFirst", desc := "(I)I" } : MethodName) prog_2_method_5_code (2 : Nat) (Option.some FieldType.int) ∈ lw_g := tb_mem 397 (by decide +kernel) (by decide +kernel)
theorem tw398 : Cond.methodLink "PartRoom$Layout" (85 : Nat) ({ cls := "PartRoom$Layout", name := "isBadTurn", desc := "(I)Z" } : MethodName) ∈ lw_g := tb_mem 398 (by decide +kernel) (by decide +kernel)
theorem tw400 : Cond.instanceMethod ({ cls := "PartRoom$Layout", name := "isBadTurn", desc := "(I)Z" } : MethodName) ∈ lw_g := tb_mem 400 (by decide +kernel) (by decide +kernel)
theorem tw401 : Cond.code ({ cls := "PartRoom$Layout", name := "isBadTurn", desc := "(I)Z" } : MethodName) prog_2_method_8_code (2 : Nat) (Option.some FieldType.boolean) ∈ lw_g := tb_mem 401 (by decide +kernel) (by decide +kernel)
theorem tw402 : Cond.methodLink "PartRoom" (133 : Nat) ({ cls := "PartRoom$Layout", name := "pageCount", desc := "()I" } : MethodName) ∈ lw_g := tb_mem 402 (by decide +kernel) (by decide +kernel)
theorem tw403 : Cond.instanceMethod ({ cls := "PartRoom$Layout", name := "pageCount", desc := "()I" } : MethodName) ∈ lw_g := tb_mem 403 (by decide +kernel) (by decide +kernel)
theorem tw404 : Cond.selects "PartRoom$Layout" ({ cls := "PartRoom$Layout", name := "pageCount", desc := "()I" } : MethodName) ({ cls := "PartRoom$Layout", name := "pageCount", desc := "()I" } : MethodName) ∈ lw_g := tb_mem 404 (by decide +kernel) (by decide +kernel)
theorem tw405 : Cond.code ({ cls := "PartRoom$Layout", name := "pageCount", desc := "()I" } : MethodName) prog_2_method_9_code (1 : Nat) (Option.some FieldType.int) ∈ lw_g := tb_mem 405 (by decide +kernel) (by decide +kernel)
theorem tw406 : Cond.constant "PartRoom" (137 : Nat) (-1000002 : Int32) ∈ lw_g := tb_mem 406 (by decide +kernel) (by decide +kernel)
theorem tw407 : Cond.methodLink "PartRoom" (138 : Nat) ({ cls := "PartRoom$Layout", name := "badTurns", desc := "()I" } : MethodName) ∈ lw_g := tb_mem 407 (by decide +kernel) (by decide +kernel)
theorem tw408 : Cond.instanceMethod ({ cls := "PartRoom$Layout", name := "badTurns", desc := "()I" } : MethodName) ∈ lw_g := tb_mem 408 (by decide +kernel) (by decide +kernel)
theorem tw409 : Cond.selects "PartRoom$Layout" ({ cls := "PartRoom$Layout", name := "badTurns", desc := "()I" } : MethodName) ({ cls := "PartRoom$Layout", name := "badTurns", desc := "()I" } : MethodName) ∈ lw_g := tb_mem 409 (by decide +kernel) (by decide +kernel)
theorem tw410 : Cond.code ({ cls := "PartRoom$Layout", name := "badTurns", desc := "()I" } : MethodName) prog_2_method_10_code (1 : Nat) (Option.some FieldType.int) ∈ lw_g := tb_mem 410 (by decide +kernel) (by decide +kernel)
theorem tw411 : Cond.methodLink "PartRoomLaw" (77 : Nat) ({ cls := "PartRoom", name := "page", desc := "(II)I" } : MethodName) ∈ lw_g := tb_mem 411 (by decide +kernel) (by decide +kernel)
theorem tw412 : Cond.instanceMethod ({ cls := "PartRoom", name := "page", desc := "(II)I" } : MethodName) ∈ lw_g := tb_mem 412 (by decide +kernel) (by decide +kernel)
theorem tw413 : Cond.selects "PartRoom" ({ cls := "PartRoom", name := "page", desc := "(II)I" } : MethodName) ({ cls := "PartRoom", name := "page", desc := "(II)I" } : MethodName) ∈ lw_g := tb_mem 413 (by decide +kernel) (by decide +kernel)
theorem tw414 : Cond.code ({ cls := "PartRoom", name := "page", desc := "(II)I" } : MethodName) prog_1_method_17_code (4 : Nat) (Option.some FieldType.int) ∈ lw_g := tb_mem 414 (by decide +kernel) (by decide +kernel)
theorem tw415 : Cond.methodLink "PartRoom" (141 : Nat) ({ cls := "PartRoom$Layout", name := "firstBar", desc := "(I)I" } : MethodName) ∈ lw_g := tb_mem 415 (by decide +kernel) (by decide +kernel)
theorem tw416 : Cond.instanceMethod ({ cls := "PartRoom$Layout", name := "firstBar", desc := "(I)I" } : MethodName) ∈ lw_g := tb_mem 416 (by decide +kernel) (by decide +kernel)
theorem tw417 : Cond.selects "PartRoom$Layout" ({ cls := "PartRoom$Layout", name := "firstBar", desc := "(I)I" } : MethodName) ({ cls := "PartRoom$Layout", name := "firstBar", desc := "(I)I" } : MethodName) ∈ lw_g := tb_mem 417 (by decide +kernel) (by decide +kernel)
theorem tw418 : Cond.code ({ cls := "PartRoom$Layout", name := "firstBar", desc := "(I)I" } : MethodName) prog_2_method_12_code (2 : Nat) (Option.some FieldType.int) ∈ lw_g := tb_mem 418 (by decide +kernel) (by decide +kernel)
theorem tw419 : Cond.methodLink "PartRoom$Layout" (88 : Nat) ({ cls := "PartRoom$Layout", name := "placeOfPage", desc := "(I)I" } : MethodName) ∈ lw_g := tb_mem 419 (by decide +kernel) (by decide +kernel)
theorem tw421 : Cond.instanceMethod ({ cls := "PartRoom$Layout", name := "placeOfPage", desc := "(I)I" } : MethodName) ∈ lw_g := tb_mem 421 (by decide +kernel) (by decide +kernel)
theorem tw422 : Cond.code ({ cls := "PartRoom$Layout", name := "placeOfPage", desc := "(I)I" } : MethodName) prog_2_method_11_code (4 : Nat) (Option.some FieldType.int) ∈ lw_g := tb_mem 422 (by decide +kernel) (by decide +kernel)
theorem tw423 : Cond.methodLink "PartRoom$Layout" (91 : Nat) ({ cls := "PartRoom$Part", name := "barAt", desc := "(I)I" } : MethodName) ∈ lw_g := tb_mem 423 (by decide +kernel) (by decide +kernel)
theorem tw424 : Cond.instanceMethod ({ cls := "PartRoom$Part", name := "barAt", desc := "(I)I" } : MethodName) ∈ lw_g := tb_mem 424 (by decide +kernel) (by decide +kernel)
theorem tw425 : Cond.selects "PartRoom$Part" ({ cls := "PartRoom$Part", name := "barAt", desc := "(I)I" } : MethodName) ({ cls := "PartRoom$Part", name := "barAt", desc := "(I)I" } : MethodName) ∈ lw_g := tb_mem 425 (by decide +kernel) (by decide +kernel)
theorem tw426 : Cond.code ({ cls := "PartRoom$Part", name := "barAt", desc := "(I)I" } : MethodName) prog_3_method_11_code (2 : Nat) (Option.some FieldType.int) ∈ lw_g := tb_mem 426 (by decide +kernel) (by decide +kernel)
theorem tw427 : Cond.methodLink "PartRoomLaw" (81 : Nat) ({ cls := "PartRoom", name := "free", desc := "(II)I" } : MethodName) ∈ lw_g := tb_mem 427 (by decide +kernel) (by decide +kernel)
theorem tw428 : Cond.instanceMethod ({ cls := "PartRoom", name := "free", desc := "(II)I" } : MethodName) ∈ lw_g := tb_mem 428 (by decide +kernel) (by decide +kernel)
theorem tw429 : Cond.selects "PartRoom" ({ cls := "PartRoom", name := "free", desc := "(II)I" } : MethodName) ({ cls := "PartRoom", name := "free", desc := "(II)I" } : MethodName) ∈ lw_g := tb_mem 429 (by decide +kernel) (by decide +kernel)
theorem tw430 : Cond.code ({ cls := "PartRoom", name := "free", desc := "(II)I" } : MethodName) prog_1_method_18_code (4 : Nat) (Option.some FieldType.int) ∈ lw_g := tb_mem 430 (by decide +kernel) (by decide +kernel)
theorem tw431 : Cond.methodLink "PartRoom" (144 : Nat) ({ cls := "PartRoom$Layout", name := "freeBehind", desc := "(I)I" } : MethodName) ∈ lw_g := tb_mem 431 (by decide +kernel) (by decide +kernel)
theorem tw432 : Cond.instanceMethod ({ cls := "PartRoom$Layout", name := "freeBehind", desc := "(I)I" } : MethodName) ∈ lw_g := tb_mem 432 (by decide +kernel) (by decide +kernel)
theorem tw433 : Cond.selects "PartRoom$Layout" ({ cls := "PartRoom$Layout", name := "freeBehind", desc := "(I)I" } : MethodName) ({ cls := "PartRoom$Layout", name := "freeBehind", desc := "(I)I" } : MethodName) ∈ lw_g := tb_mem 433 (by decide +kernel) (by decide +kernel)
theorem tw434 : Cond.code ({ cls := "PartRoom$Layout", name := "freeBehind", desc := "(I)I" } : MethodName) prog_2_method_13_code (3 : Nat) (Option.some FieldType.int) ∈ lw_g := tb_mem 434 (by decide +kernel) (by decide +kernel)
theorem tw435 : Cond.constant "PartRoom$Layout" (94 : Nat) (-1000002 : Int32) ∈ lw_g := tb_mem 435 (by decide +kernel) (by decide +kernel)
theorem tw436 : Cond.methodLink "PartRoomLaw" (85 : Nat) ({ cls := "PartRoom", name := "systems", desc := "(II)I" } : MethodName) ∈ lw_g := tb_mem 436 (by decide +kernel) (by decide +kernel)
theorem tw437 : Cond.instanceMethod ({ cls := "PartRoom", name := "systems", desc := "(II)I" } : MethodName) ∈ lw_g := tb_mem 437 (by decide +kernel) (by decide +kernel)
theorem tw438 : Cond.selects "PartRoom" ({ cls := "PartRoom", name := "systems", desc := "(II)I" } : MethodName) ({ cls := "PartRoom", name := "systems", desc := "(II)I" } : MethodName) ∈ lw_g := tb_mem 438 (by decide +kernel) (by decide +kernel)
theorem tw439 : Cond.code ({ cls := "PartRoom", name := "systems", desc := "(II)I" } : MethodName) prog_1_method_19_code (4 : Nat) (Option.some FieldType.int) ∈ lw_g := tb_mem 439 (by decide +kernel) (by decide +kernel)
theorem tw440 : Cond.methodLink "PartRoom" (147 : Nat) ({ cls := "PartRoom$Layout", name := "systemsOf", desc := "(I)I" } : MethodName) ∈ lw_g := tb_mem 440 (by decide +kernel) (by decide +kernel)
theorem tw441 : Cond.instanceMethod ({ cls := "PartRoom$Layout", name := "systemsOf", desc := "(I)I" } : MethodName) ∈ lw_g := tb_mem 441 (by decide +kernel) (by decide +kernel)
theorem tw442 : Cond.selects "PartRoom$Layout" ({ cls := "PartRoom$Layout", name := "systemsOf", desc := "(I)I" } : MethodName) ({ cls := "PartRoom$Layout", name := "systemsOf", desc := "(I)I" } : MethodName) ∈ lw_g := tb_mem 442 (by decide +kernel) (by decide +kernel)
theorem tw443 : Cond.code ({ cls := "PartRoom$Layout", name := "systemsOf", desc := "(I)I" } : MethodName) prog_2_method_14_code (3 : Nat) (Option.some FieldType.int) ∈ lw_g := tb_mem 443 (by decide +kernel) (by decide +kernel)
theorem tw444 : Cond.methodLink "PartRoomLaw" (89 : Nat) ({ cls := "PartRoom", name := "lay", desc := "(I)I" } : MethodName) ∈ lw_g := tb_mem 444 (by decide +kernel) (by decide +kernel)
theorem tw445 : Cond.instanceMethod ({ cls := "PartRoom", name := "lay", desc := "(I)I" } : MethodName) ∈ lw_g := tb_mem 445 (by decide +kernel) (by decide +kernel)
theorem tw446 : Cond.selects "PartRoom" ({ cls := "PartRoom", name := "lay", desc := "(I)I" } : MethodName) ({ cls := "PartRoom", name := "lay", desc := "(I)I" } : MethodName) ∈ lw_g := tb_mem 446 (by decide +kernel) (by decide +kernel)
theorem tw447 : Cond.code ({ cls := "PartRoom", name := "lay", desc := "(I)I" } : MethodName) prog_1_method_20_code (3 : Nat) (Option.some FieldType.int) ∈ lw_g := tb_mem 447 (by decide +kernel) (by decide +kernel)
theorem tw448 : Cond.methodLink "PartRoom" (150 : Nat) ({ cls := "PartRoom$Voice", name := "keepLaid", desc := "(LPartRoom$Score;LPartRoom$Layout;)V" } : MethodName) ∈ lw_g := tb_mem 448 (by decide +kernel) (by decide +kernel)
theorem tw449 : Cond.instanceMethod ({ cls := "PartRoom$Voice", name := "keepLaid", desc := "(LPartRoom$Score;LPartRoom$Layout;)V" } : MethodName) ∈ lw_g := tb_mem 449 (by decide +kernel) (by decide +kernel)
theorem tw450 : Cond.selects "PartRoom$Voice" ({ cls := "PartRoom$Voice", name := "keepLaid", desc := "(LPartRoom$Score;LPartRoom$Layout;)V" } : MethodName) ({ cls := "PartRoom$Voice", name := "keepLaid", desc := "(LPartRoom$Score;LPartRoom$Layout;)V" } : MethodName) ∈ lw_g := tb_mem 450 (by decide +kernel) (by decide +kernel)
theorem tw451 : Cond.code ({ cls := "PartRoom$Voice", name := "keepLaid", desc := "(LPartRoom$Score;LPartRoom$Layout;)V" } : MethodName) prog_6_method_5_code (4 : Nat) (Option.none : Option FieldType) ∈ lw_g := tb_mem 451 (by decide +kernel) (by decide +kernel)
theorem tw452 : Cond.methodLink "PartRoom$Voice" (47 : Nat) ({ cls := "PartRoom$Layout", name := "pageCount", desc := "()I" } : MethodName) ∈ lw_g := tb_mem 452 (by decide +kernel) (by decide +kernel)
theorem tw453 : Cond.methodLink "PartRoom$Voice" (53 : Nat) ({ cls := "PartRoom$Layout", name := "firstBar", desc := "(I)I" } : MethodName) ∈ lw_g := tb_mem 453 (by decide +kernel) (by decide +kernel)
theorem tw454 : Cond.methodLink "PartRoom$Voice" (57 : Nat) ({ cls := "PartRoom$Voice", name := "markOf", desc := "(LPartRoom$Score;I)I" } : MethodName) ∈ lw_g := tb_mem 454 (by decide +kernel) (by decide +kernel)
theorem tw456 : Cond.instanceMethod ({ cls := "PartRoom$Voice", name := "markOf", desc := "(LPartRoom$Score;I)I" } : MethodName) ∈ lw_g := tb_mem 456 (by decide +kernel) (by decide +kernel)
theorem tw457 : Cond.code ({ cls := "PartRoom$Voice", name := "markOf", desc := "(LPartRoom$Score;I)I" } : MethodName) prog_6_method_4_code (3 : Nat) (Option.some FieldType.int) ∈ lw_g := tb_mem 457 (by decide +kernel) (by decide +kernel)
theorem tw458 : Cond.methodLink "PartRoom$Voice" (38 : Nat) ({ cls := "PartRoom$Score", name := "isThere", desc := "(I)Z" } : MethodName) ∈ lw_g := tb_mem 458 (by decide +kernel) (by decide +kernel)
theorem tw459 : Cond.methodLink "PartRoomLaw" (93 : Nat) ({ cls := "PartRoom", name := "stale", desc := "(I)I" } : MethodName) ∈ lw_g := tb_mem 459 (by decide +kernel) (by decide +kernel)
theorem tw460 : Cond.instanceMethod ({ cls := "PartRoom", name := "stale", desc := "(I)I" } : MethodName) ∈ lw_g := tb_mem 460 (by decide +kernel) (by decide +kernel)
theorem tw461 : Cond.selects "PartRoom" ({ cls := "PartRoom", name := "stale", desc := "(I)I" } : MethodName) ({ cls := "PartRoom", name := "stale", desc := "(I)I" } : MethodName) ∈ lw_g := tb_mem 461 (by decide +kernel) (by decide +kernel)
theorem tw462 : Cond.code ({ cls := "PartRoom", name := "stale", desc := "(I)I" } : MethodName) prog_1_method_21_code (3 : Nat) (Option.some FieldType.int) ∈ lw_g := tb_mem 462 (by decide +kernel) (by decide +kernel)
theorem tw463 : Cond.methodLink "PartRoom" (157 : Nat) ({ cls := "PartRoom$Voice", name := "stalePages", desc := "(LPartRoom$Score;)I" } : MethodName) ∈ lw_g := tb_mem 463 (by decide +kernel) (by decide +kernel)
theorem tw464 : Cond.instanceMethod ({ cls := "PartRoom$Voice", name := "stalePages", desc := "(LPartRoom$Score;)I" } : MethodName) ∈ lw_g := tb_mem 464 (by decide +kernel) (by decide +kernel)
theorem tw465 : Cond.selects "PartRoom$Voice" ({ cls := "PartRoom$Voice", name := "stalePages", desc := "(LPartRoom$Score;)I" } : MethodName) ({ cls := "PartRoom$Voice", name := "stalePages", desc := "(LPartRoom$Score;)I" } : MethodName) ∈ lw_g := tb_mem 465 (by decide +kernel) (by decide +kernel)
theorem tw466 : Cond.code ({ cls := "PartRoom$Voice", name := "stalePages", desc := "(LPartRoom$Score;)I" } : MethodName) prog_6_method_6_code (6 : Nat) (Option.some FieldType.int) ∈ lw_g := tb_mem 466 (by decide +kernel) (by decide +kernel)
theorem tw467 : Cond.methodLink "PartRoomLaw" (97 : Nat) ({ cls := "PartRoom", name := "tell", desc := "(I)I" } : MethodName) ∈ lw_g := tb_mem 467 (by decide +kernel) (by decide +kernel)
theorem tw468 : Cond.instanceMethod ({ cls := "PartRoom", name := "tell", desc := "(I)I" } : MethodName) ∈ lw_g := tb_mem 468 (by decide +kernel) (by decide +kernel)
theorem tw469 : Cond.selects "PartRoom" ({ cls := "PartRoom", name := "tell", desc := "(I)I" } : MethodName) ({ cls := "PartRoom", name := "tell", desc := "(I)I" } : MethodName) ∈ lw_g := tb_mem 469 (by decide +kernel) (by decide +kernel)
theorem tw470 : Cond.code ({ cls := "PartRoom", name := "tell", desc := "(I)I" } : MethodName) prog_1_method_22_code (2 : Nat) (Option.some FieldType.int) ∈ lw_g := tb_mem 470 (by decide +kernel) (by decide +kernel)
theorem tw471 : Cond.methodLink "PartRoom" (161 : Nat) ({ cls := "PartRoom$Told", name := "add", desc := "(I)I" } : MethodName) ∈ lw_g := tb_mem 471 (by decide +kernel) (by decide +kernel)
theorem tw472 : Cond.instanceMethod ({ cls := "PartRoom$Told", name := "add", desc := "(I)I" } : MethodName) ∈ lw_g := tb_mem 472 (by decide +kernel) (by decide +kernel)
theorem tw473 : Cond.selects "PartRoom$Told" ({ cls := "PartRoom$Told", name := "add", desc := "(I)I" } : MethodName) ({ cls := "PartRoom$Told", name := "add", desc := "(I)I" } : MethodName) ∈ lw_g := tb_mem 473 (by decide +kernel) (by decide +kernel)
theorem tw474 : Cond.code ({ cls := "PartRoom$Told", name := "add", desc := "(I)I" } : MethodName) prog_5_method_2_code (2 : Nat) (Option.some FieldType.int) ∈ lw_g := tb_mem 474 (by decide +kernel) (by decide +kernel)
theorem tw475 : Cond.constant "PartRoom$Told" (19 : Nat) (-1000004 : Int32) ∈ lw_g := tb_mem 475 (by decide +kernel) (by decide +kernel)
theorem tw476 : Cond.methodLink "PartRoomLaw" (101 : Nat) ({ cls := "PartRoom", name := "check", desc := "(I)I" } : MethodName) ∈ lw_g := tb_mem 476 (by decide +kernel) (by decide +kernel)
theorem tw477 : Cond.instanceMethod ({ cls := "PartRoom", name := "check", desc := "(I)I" } : MethodName) ∈ lw_g := tb_mem 477 (by decide +kernel) (by decide +kernel)
theorem tw478 : Cond.selects "PartRoom" ({ cls := "PartRoom", name := "check", desc := "(I)I" } : MethodName) ({ cls := "PartRoom", name := "check", desc := "(I)I" } : MethodName) ∈ lw_g := tb_mem 478 (by decide +kernel) (by decide +kernel)
theorem tw479 : Cond.code ({ cls := "PartRoom", name := "check", desc := "(I)I" } : MethodName) prog_1_method_23_code (3 : Nat) (Option.some FieldType.int) ∈ lw_g := tb_mem 479 (by decide +kernel) (by decide +kernel)
theorem tw480 : Cond.methodLink "PartRoom" (164 : Nat) ({ cls := "PartRoom$Told", name := "takeAll", desc := "()I" } : MethodName) ∈ lw_g := tb_mem 480 (by decide +kernel) (by decide +kernel)
theorem tw481 : Cond.instanceMethod ({ cls := "PartRoom$Told", name := "takeAll", desc := "()I" } : MethodName) ∈ lw_g := tb_mem 481 (by decide +kernel) (by decide +kernel)
theorem tw482 : Cond.selects "PartRoom$Told" ({ cls := "PartRoom$Told", name := "takeAll", desc := "()I" } : MethodName) ({ cls := "PartRoom$Told", name := "takeAll", desc := "()I" } : MethodName) ∈ lw_g := tb_mem 482 (by decide +kernel) (by decide +kernel)
theorem tw483 : Cond.code ({ cls := "PartRoom$Told", name := "takeAll", desc := "()I" } : MethodName) prog_5_method_3_code (2 : Nat) (Option.some FieldType.int) ∈ lw_g := tb_mem 483 (by decide +kernel) (by decide +kernel)
theorem tw484 : Cond.methodLink "PartRoom" (167 : Nat) ({ cls := "PartRoom$Told", name := "compare", desc := "(ILPartRoom$Part;)I" } : MethodName) ∈ lw_g := tb_mem 484 (by decide +kernel) (by decide +kernel)
theorem tw485 : Cond.instanceMethod ({ cls := "PartRoom$Told", name := "compare", desc := "(ILPartRoom$Part;)I" } : MethodName) ∈ lw_g := tb_mem 485 (by decide +kernel) (by decide +kernel)
theorem tw486 : Cond.selects "PartRoom$Told" ({ cls := "PartRoom$Told", name := "compare", desc := "(ILPartRoom$Part;)I" } : MethodName) ({ cls := "PartRoom$Told", name := "compare", desc := "(ILPartRoom$Part;)I" } : MethodName) ∈ lw_g := tb_mem 486 (by decide +kernel) (by decide +kernel)
theorem tw487 : Cond.code ({ cls := "PartRoom$Told", name := "compare", desc := "(ILPartRoom$Part;)I" } : MethodName) prog_5_method_4_code (6 : Nat) (Option.some FieldType.int) ∈ lw_g := tb_mem 487 (by decide +kernel) (by decide +kernel)
theorem tw488 : Cond.methodLink "PartRoom$Told" (25 : Nat) ({ cls := "PartRoom$Part", name := "plays", desc := "(I)Z" } : MethodName) ∈ lw_g := tb_mem 488 (by decide +kernel) (by decide +kernel)
theorem tw489 : Cond.methodLink "PartRoom$Told" (29 : Nat) ({ cls := "PartRoom$Part", name := "opensRests", desc := "(I)Z" } : MethodName) ∈ lw_g := tb_mem 489 (by decide +kernel) (by decide +kernel)
theorem tw490 : Cond.methodLink "PartRoom$Told" (32 : Nat) ({ cls := "PartRoom$Part", name := "notesAt", desc := "(I)I" } : MethodName) ∈ lw_g := tb_mem 490 (by decide +kernel) (by decide +kernel)
theorem tw491 : Cond.methodLink "PartRoom$Told" (36 : Nat) ({ cls := "PartRoom$Part", name := "restsLength", desc := "(I)I" } : MethodName) ∈ lw_g := tb_mem 491 (by decide +kernel) (by decide +kernel)
theorem tw492 : Cond.methodLink "PartRoomLaw" (105 : Nat) ({ cls := "PartRoom", name := "count", desc := "(I)I" } : MethodName) ∈ lw_g := tb_mem 492 (by decide +kernel) (by decide +kernel)
theorem tw493 : Cond.instanceMethod ({ cls := "PartRoom", name := "count", desc := "(I)I" } : MethodName) ∈ lw_g := tb_mem 493 (by decide +kernel) (by decide +kernel)
theorem tw494 : Cond.selects "PartRoom" ({ cls := "PartRoom", name := "count", desc := "(I)I" } : MethodName) ({ cls := "PartRoom", name := "count", desc := "(I)I" } : MethodName) ∈ lw_g := tb_mem 494 (by decide +kernel) (by decide +kernel)
theorem tw495 : Cond.code ({ cls := "PartRoom", name := "count", desc := "(I)I" } : MethodName) prog_1_method_24_code (2 : Nat) (Option.some FieldType.int) ∈ lw_g := tb_mem 495 (by decide +kernel) (by decide +kernel)
theorem tw496 : Cond.methodLink "PartRoom" (177 : Nat) ({ cls := "PartRoom$Score", name := "cutBars", desc := "()I" } : MethodName) ∈ lw_g := tb_mem 496 (by decide +kernel) (by decide +kernel)
theorem tw497 : Cond.instanceMethod ({ cls := "PartRoom$Score", name := "cutBars", desc := "()I" } : MethodName) ∈ lw_g := tb_mem 497 (by decide +kernel) (by decide +kernel)
theorem tw498 : Cond.selects "PartRoom$Score" ({ cls := "PartRoom$Score", name := "cutBars", desc := "()I" } : MethodName) ({ cls := "PartRoom$Score", name := "cutBars", desc := "()I" } : MethodName) ∈ lw_g := tb_mem 498 (by decide +kernel) (by decide +kernel)
theorem tw499 : Cond.code ({ cls := "PartRoom$Score", name := "cutBars", desc := "()I" } : MethodName) prog_4_method_8_code (3 : Nat) (Option.some FieldType.int) ∈ lw_g := tb_mem 499 (by decide +kernel) (by decide +kernel)
theorem tw500 : Cond.methodLink "PartRoom" (180 : Nat) ({ cls := "PartRoom$Score", name := "secondsLeft", desc := "()I" } : MethodName) ∈ lw_g := tb_mem 500 (by decide +kernel) (by decide +kernel)
theorem tw501 : Cond.instanceMethod ({ cls := "PartRoom$Score", name := "secondsLeft", desc := "()I" } : MethodName) ∈ lw_g := tb_mem 501 (by decide +kernel) (by decide +kernel)
theorem tw502 : Cond.selects "PartRoom$Score" ({ cls := "PartRoom$Score", name := "secondsLeft", desc := "()I" } : MethodName) ({ cls := "PartRoom$Score", name := "secondsLeft", desc := "()I" } : MethodName) ∈ lw_g := tb_mem 502 (by decide +kernel) (by decide +kernel)
theorem tw503 : Cond.code ({ cls := "PartRoom$Score", name := "secondsLeft", desc := "()I" } : MethodName) prog_4_method_9_code (3 : Nat) (Option.some FieldType.int) ∈ lw_g := tb_mem 503 (by decide +kernel) (by decide +kernel)
theorem tw504 : Cond.methodLink "PartRoom" (186 : Nat) ({ cls := "PartRoom$Score", name := "laidVoices", desc := "()I" } : MethodName) ∈ lw_g := tb_mem 504 (by decide +kernel) (by decide +kernel)
theorem tw505 : Cond.instanceMethod ({ cls := "PartRoom$Score", name := "laidVoices", desc := "()I" } : MethodName) ∈ lw_g := tb_mem 505 (by decide +kernel) (by decide +kernel)
theorem tw506 : Cond.selects "PartRoom$Score" ({ cls := "PartRoom$Score", name := "laidVoices", desc := "()I" } : MethodName) ({ cls := "PartRoom$Score", name := "laidVoices", desc := "()I" } : MethodName) ∈ lw_g := tb_mem 506 (by decide +kernel) (by decide +kernel)
theorem tw507 : Cond.code ({ cls := "PartRoom$Score", name := "laidVoices", desc := "()I" } : MethodName) prog_4_method_10_code (4 : Nat) (Option.some FieldType.int) ∈ lw_g := tb_mem 507 (by decide +kernel) (by decide +kernel)
theorem tw508 : Cond.methodLink "PartRoomLaw" (109 : Nat) ({ cls := "PartRoom", name := "found", desc := "(I)I" } : MethodName) ∈ lw_g := tb_mem 508 (by decide +kernel) (by decide +kernel)
theorem tw509 : Cond.instanceMethod ({ cls := "PartRoom", name := "found", desc := "(I)I" } : MethodName) ∈ lw_g := tb_mem 509 (by decide +kernel) (by decide +kernel)
theorem tw510 : Cond.selects "PartRoom" ({ cls := "PartRoom", name := "found", desc := "(I)I" } : MethodName) ({ cls := "PartRoom", name := "found", desc := "(I)I" } : MethodName) ∈ lw_g := tb_mem 510 (by decide +kernel) (by decide +kernel)
theorem tw511 : Cond.code ({ cls := "PartRoom", name := "found", desc := "(I)I" } : MethodName) prog_1_method_25_code (2 : Nat) (Option.some FieldType.int) ∈ lw_g := tb_mem 511 (by decide +kernel) (by decide +kernel)
theorem tw512 : Cond.classLink "PartRoomLaw" (10 : Nat) "PartRoomModel" ∈ lw_g := tb_mem 512 (by decide +kernel) (by decide +kernel)
theorem tw513 : Cond.instantiable "PartRoomModel" (28 : Nat) ∈ lw_g := tb_mem 513 (by decide +kernel) (by decide +kernel)
theorem tw514 : Cond.methodLink "PartRoomLaw" (12 : Nat) ({ cls := "PartRoomModel", name := "<init>", desc := "()V" } : MethodName) ∈ lw_g := tb_mem 514 (by decide +kernel) (by decide +kernel)
theorem tw515 : Cond.instanceMethod ({ cls := "PartRoomModel", name := "<init>", desc := "()V" } : MethodName) ∈ lw_g := tb_mem 515 (by decide +kernel) (by decide +kernel)
theorem tw516 : Cond.code ({ cls := "PartRoomModel", name := "<init>", desc := "()V" } : MethodName) prog_8_method_1_code (1 : Nat) (Option.none : Option FieldType) ∈ lw_g := tb_mem 516 (by decide +kernel) (by decide +kernel)
theorem tw517 : Cond.methodLink "PartRoomModel" (1 : Nat) ({ cls := "java/lang/Object", name := "<init>", desc := "()V" } : MethodName) ∈ lw_g := tb_mem 517 (by decide +kernel) (by decide +kernel)
theorem tw518 : Cond.fieldLink "PartRoomModel" (82 : Nat) "PartRoomModel" "bars" "I" ∈ lw_g := tb_mem 518 (by decide +kernel) (by decide +kernel)
theorem tw519 : Cond.fieldLink "PartRoomModel" (89 : Nat) "PartRoomModel" "voices" "I" ∈ lw_g := tb_mem 519 (by decide +kernel) (by decide +kernel)
theorem tw520 : Cond.fieldLink "PartRoomModel" (150 : Nat) "PartRoomModel" "waiting" "I" ∈ lw_g := tb_mem 520 (by decide +kernel) (by decide +kernel)
theorem tw521 : Cond.fieldLink "PartRoomModel" (126 : Nat) "PartRoomModel" "keyNow" "I" ∈ lw_g := tb_mem 521 (by decide +kernel) (by decide +kernel)
theorem tw522 : Cond.fieldLink "PartRoomModel" (7 : Nat) "PartRoomModel" "dueNow" "I" ∈ lw_g := tb_mem 522 (by decide +kernel) (by decide +kernel)
theorem tw523 : Cond.fieldLink "PartRoomModel" (13 : Nat) "PartRoomModel" "wide" "I" ∈ lw_g := tb_mem 523 (by decide +kernel) (by decide +kernel)
theorem tw524 : Cond.fieldLink "PartRoomModel" (16 : Nat) "PartRoomModel" "lines" "I" ∈ lw_g := tb_mem 524 (by decide +kernel) (by decide +kernel)
theorem tw525 : Cond.fieldLink "PartRoomModel" (19 : Nat) "PartRoomModel" "needNow" "I" ∈ lw_g := tb_mem 525 (by decide +kernel) (by decide +kernel)
theorem tw526 : Cond.fieldLink "PartRoomModel" (22 : Nat) "PartRoomModel" "seconds" "[I" ∈ lw_g := tb_mem 526 (by decide +kernel) (by decide +kernel)
theorem tw527 : Cond.fieldLink "PartRoomModel" (26 : Nat) "PartRoomModel" "marks" "[I" ∈ lw_g := tb_mem 527 (by decide +kernel) (by decide +kernel)
theorem tw528 : Cond.fieldLink "PartRoomModel" (29 : Nat) "PartRoomModel" "kind" "[I" ∈ lw_g := tb_mem 528 (by decide +kernel) (by decide +kernel)
theorem tw529 : Cond.fieldLink "PartRoomModel" (32 : Nat) "PartRoomModel" "shift" "[I" ∈ lw_g := tb_mem 529 (by decide +kernel) (by decide +kernel)
theorem tw530 : Cond.fieldLink "PartRoomModel" (35 : Nat) "PartRoomModel" "onStage" "[I" ∈ lw_g := tb_mem 530 (by decide +kernel) (by decide +kernel)
theorem tw531 : Cond.fieldLink "PartRoomModel" (38 : Nat) "PartRoomModel" "played" "[I" ∈ lw_g := tb_mem 531 (by decide +kernel) (by decide +kernel)
theorem tw532 : Cond.fieldLink "PartRoomModel" (41 : Nat) "PartRoomModel" "loud" "[I" ∈ lw_g := tb_mem 532 (by decide +kernel) (by decide +kernel)
theorem tw533 : Cond.fieldLink "PartRoomModel" (44 : Nat) "PartRoomModel" "waits" "[I" ∈ lw_g := tb_mem 533 (by decide +kernel) (by decide +kernel)
theorem tw534 : Cond.fieldLink "PartRoomModel" (47 : Nat) "PartRoomModel" "counted" "[I" ∈ lw_g := tb_mem 534 (by decide +kernel) (by decide +kernel)
theorem tw535 : Cond.fieldLink "PartRoomModel" (50 : Nat) "PartRoomModel" "row" "[I" ∈ lw_g := tb_mem 535 (by decide +kernel) (by decide +kernel)
theorem tw536 : Cond.fieldLink "PartRoomModel" (106 : Nat) "PartRoomModel" "many" "I" ∈ lw_g := tb_mem 536 (by decide +kernel) (by decide +kernel)
theorem tw537 : Cond.fieldLink "PartRoomModel" (53 : Nat) "PartRoomModel" "bad" "[I" ∈ lw_g := tb_mem 537 (by decide +kernel) (by decide +kernel)
theorem tw538 : Cond.fieldLink "PartRoomModel" (56 : Nat) "PartRoomModel" "pagesFrom" "[I" ∈ lw_g := tb_mem 538 (by decide +kernel) (by decide +kernel)
theorem tw539 : Cond.fieldLink "PartRoomModel" (59 : Nat) "PartRoomModel" "size" "[I" ∈ lw_g := tb_mem 539 (by decide +kernel) (by decide +kernel)
theorem tw540 : Cond.fieldLink "PartRoomModel" (62 : Nat) "PartRoomModel" "laidPages" "[I" ∈ lw_g := tb_mem 540 (by decide +kernel) (by decide +kernel)
theorem tw541 : Cond.fieldLink "PartRoomModel" (65 : Nat) "PartRoomModel" "pageOf" "[I" ∈ lw_g := tb_mem 541 (by decide +kernel) (by decide +kernel)
theorem tw542 : Cond.fieldLink "PartRoomModel" (68 : Nat) "PartRoomModel" "laidNotes" "[I" ∈ lw_g := tb_mem 542 (by decide +kernel) (by decide +kernel)
theorem tw543 : Cond.fieldLink "PartRoomModel" (71 : Nat) "PartRoomModel" "laidLoud" "[I" ∈ lw_g := tb_mem 543 (by decide +kernel) (by decide +kernel)
theorem tw544 : Cond.fieldLink "PartRoomModel" (74 : Nat) "PartRoomModel" "laidMarks" "[I" ∈ lw_g := tb_mem 544 (by decide +kernel) (by decide +kernel)
theorem tw545 : Cond.fieldLink "PartRoomModel" (77 : Nat) "PartRoomModel" "isStale" "[Z" ∈ lw_g := tb_mem 545 (by decide +kernel) (by decide +kernel)
theorem tw546 : Cond.lays "PartRoomModel" "PartRoomModel" "bars" "I" ∈ lw_g := tb_mem 546 (by decide +kernel) (by decide +kernel)
theorem tw547 : Cond.soleField "PartRoomModel" "bars" ∈ lw_g := tb_mem 547 (by decide +kernel) (by decide +kernel)
theorem tw548 : Cond.lays "PartRoomModel" "PartRoomModel" "voices" "I" ∈ lw_g := tb_mem 548 (by decide +kernel) (by decide +kernel)
theorem tw549 : Cond.soleField "PartRoomModel" "voices" ∈ lw_g := tb_mem 549 (by decide +kernel) (by decide +kernel)
theorem tw550 : Cond.lays "PartRoomModel" "PartRoomModel" "waiting" "I" ∈ lw_g := tb_mem 550 (by decide +kernel) (by decide +kernel)
theorem tw551 : Cond.soleField "PartRoomModel" "waiting" ∈ lw_g := tb_mem 551 (by decide +kernel) (by decide +kernel)
theorem tw552 : Cond.lays "PartRoomModel" "PartRoomModel" "keyNow" "I" ∈ lw_g := tb_mem 552 (by decide +kernel) (by decide +kernel)
theorem tw553 : Cond.soleField "PartRoomModel" "keyNow" ∈ lw_g := tb_mem 553 (by decide +kernel) (by decide +kernel)
theorem tw554 : Cond.lays "PartRoomModel" "PartRoomModel" "dueNow" "I" ∈ lw_g := tb_mem 554 (by decide +kernel) (by decide +kernel)
theorem tw555 : Cond.soleField "PartRoomModel" "dueNow" ∈ lw_g := tb_mem 555 (by decide +kernel) (by decide +kernel)
theorem tw556 : Cond.lays "PartRoomModel" "PartRoomModel" "wide" "I" ∈ lw_g := tb_mem 556 (by decide +kernel) (by decide +kernel)
theorem tw557 : Cond.soleField "PartRoomModel" "wide" ∈ lw_g := tb_mem 557 (by decide +kernel) (by decide +kernel)
theorem tw558 : Cond.lays "PartRoomModel" "PartRoomModel" "lines" "I" ∈ lw_g := tb_mem 558 (by decide +kernel) (by decide +kernel)
theorem tw559 : Cond.soleField "PartRoomModel" "lines" ∈ lw_g := tb_mem 559 (by decide +kernel) (by decide +kernel)
theorem tw560 : Cond.lays "PartRoomModel" "PartRoomModel" "needNow" "I" ∈ lw_g := tb_mem 560 (by decide +kernel) (by decide +kernel)
theorem tw561 : Cond.soleField "PartRoomModel" "needNow" ∈ lw_g := tb_mem 561 (by decide +kernel) (by decide +kernel)
theorem tw562 : Cond.laysFinal "PartRoomModel" "PartRoomModel" "seconds" "[I" ∈ lw_g := tb_mem 562 (by decide +kernel) (by decide +kernel)
theorem tw563 : Cond.soleField "PartRoomModel" "seconds" ∈ lw_g := tb_mem 563 (by decide +kernel) (by decide +kernel)
theorem tw564 : Cond.laysFinal "PartRoomModel" "PartRoomModel" "marks" "[I" ∈ lw_g := tb_mem 564 (by decide +kernel) (by decide +kernel)
theorem tw565 : Cond.soleField "PartRoomModel" "marks" ∈ lw_g := tb_mem 565 (by decide +kernel) (by decide +kernel)
theorem tw566 : Cond.laysFinal "PartRoomModel" "PartRoomModel" "kind" "[I" ∈ lw_g := tb_mem 566 (by decide +kernel) (by decide +kernel)
theorem tw567 : Cond.soleField "PartRoomModel" "kind" ∈ lw_g := tb_mem 567 (by decide +kernel) (by decide +kernel)
theorem tw568 : Cond.laysFinal "PartRoomModel" "PartRoomModel" "shift" "[I" ∈ lw_g := tb_mem 568 (by decide +kernel) (by decide +kernel)
theorem tw569 : Cond.soleField "PartRoomModel" "shift" ∈ lw_g := tb_mem 569 (by decide +kernel) (by decide +kernel)
theorem tw570 : Cond.laysFinal "PartRoomModel" "PartRoomModel" "onStage" "[I" ∈ lw_g := tb_mem 570 (by decide +kernel) (by decide +kernel)
theorem tw571 : Cond.soleField "PartRoomModel" "onStage" ∈ lw_g := tb_mem 571 (by decide +kernel) (by decide +kernel)
theorem tw572 : Cond.laysFinal "PartRoomModel" "PartRoomModel" "played" "[I" ∈ lw_g := tb_mem 572 (by decide +kernel) (by decide +kernel)
theorem tw573 : Cond.soleField "PartRoomModel" "played" ∈ lw_g := tb_mem 573 (by decide +kernel) (by decide +kernel)
theorem tw574 : Cond.laysFinal "PartRoomModel" "PartRoomModel" "loud" "[I" ∈ lw_g := tb_mem 574 (by decide +kernel) (by decide +kernel)
theorem tw575 : Cond.soleField "PartRoomModel" "loud" ∈ lw_g := tb_mem 575 (by decide +kernel) (by decide +kernel)
theorem tw576 : Cond.laysFinal "PartRoomModel" "PartRoomModel" "waits" "[I" ∈ lw_g := tb_mem 576 (by decide +kernel) (by decide +kernel)
theorem tw577 : Cond.soleField "PartRoomModel" "waits" ∈ lw_g := tb_mem 577 (by decide +kernel) (by decide +kernel)
theorem tw578 : Cond.laysFinal "PartRoomModel" "PartRoomModel" "counted" "[I" ∈ lw_g := tb_mem 578 (by decide +kernel) (by decide +kernel)
theorem tw579 : Cond.soleField "PartRoomModel" "counted" ∈ lw_g := tb_mem 579 (by decide +kernel) (by decide +kernel)
theorem tw580 : Cond.laysFinal "PartRoomModel" "PartRoomModel" "row" "[I" ∈ lw_g := tb_mem 580 (by decide +kernel) (by decide +kernel)
theorem tw581 : Cond.soleField "PartRoomModel" "row" ∈ lw_g := tb_mem 581 (by decide +kernel) (by decide +kernel)
theorem tw582 : Cond.lays "PartRoomModel" "PartRoomModel" "many" "I" ∈ lw_g := tb_mem 582 (by decide +kernel) (by decide +kernel)
theorem tw583 : Cond.soleField "PartRoomModel" "many" ∈ lw_g := tb_mem 583 (by decide +kernel) (by decide +kernel)
theorem tw584 : Cond.laysFinal "PartRoomModel" "PartRoomModel" "bad" "[I" ∈ lw_g := tb_mem 584 (by decide +kernel) (by decide +kernel)
theorem tw585 : Cond.soleField "PartRoomModel" "bad" ∈ lw_g := tb_mem 585 (by decide +kernel) (by decide +kernel)
theorem tw586 : Cond.laysFinal "PartRoomModel" "PartRoomModel" "pagesFrom" "[I" ∈ lw_g := tb_mem 586 (by decide +kernel) (by decide +kernel)
theorem tw587 : Cond.soleField "PartRoomModel" "pagesFrom" ∈ lw_g := tb_mem 587 (by decide +kernel) (by decide +kernel)
theorem tw588 : Cond.laysFinal "PartRoomModel" "PartRoomModel" "size" "[I" ∈ lw_g := tb_mem 588 (by decide +kernel) (by decide +kernel)
theorem tw589 : Cond.soleField "PartRoomModel" "size" ∈ lw_g := tb_mem 589 (by decide +kernel) (by decide +kernel)
theorem tw590 : Cond.laysFinal "PartRoomModel" "PartRoomModel" "laidPages" "[I" ∈ lw_g := tb_mem 590 (by decide +kernel) (by decide +kernel)
theorem tw591 : Cond.soleField "PartRoomModel" "laidPages" ∈ lw_g := tb_mem 591 (by decide +kernel) (by decide +kernel)
theorem tw592 : Cond.laysFinal "PartRoomModel" "PartRoomModel" "pageOf" "[I" ∈ lw_g := tb_mem 592 (by decide +kernel) (by decide +kernel)
theorem tw593 : Cond.soleField "PartRoomModel" "pageOf" ∈ lw_g := tb_mem 593 (by decide +kernel) (by decide +kernel)
theorem tw594 : Cond.laysFinal "PartRoomModel" "PartRoomModel" "laidNotes" "[I" ∈ lw_g := tb_mem 594 (by decide +kernel) (by decide +kernel)
theorem tw595 : Cond.soleField "PartRoomModel" "laidNotes" ∈ lw_g := tb_mem 595 (by decide +kernel) (by decide +kernel)
theorem tw596 : Cond.laysFinal "PartRoomModel" "PartRoomModel" "laidLoud" "[I" ∈ lw_g := tb_mem 596 (by decide +kernel) (by decide +kernel)
theorem tw597 : Cond.soleField "PartRoomModel" "laidLoud" ∈ lw_g := tb_mem 597 (by decide +kernel) (by decide +kernel)
theorem tw598 : Cond.laysFinal "PartRoomModel" "PartRoomModel" "laidMarks" "[I" ∈ lw_g := tb_mem 598 (by decide +kernel) (by decide +kernel)
theorem tw599 : Cond.soleField "PartRoomModel" "laidMarks" ∈ lw_g := tb_mem 599 (by decide +kernel) (by decide +kernel)
theorem tw600 : Cond.laysFinal "PartRoomModel" "PartRoomModel" "isStale" "[Z" ∈ lw_g := tb_mem 600 (by decide +kernel) (by decide +kernel)
theorem tw601 : Cond.soleField "PartRoomModel" "isStale" ∈ lw_g := tb_mem 601 (by decide +kernel) (by decide +kernel)
theorem tw602 : Cond.superclass "PartRoomModel" "java/lang/Object" ∈ lw_g := tb_mem 602 (by decide +kernel) (by decide +kernel)
theorem tw603 : Cond.arrayClass FieldType.boolean ∈ lw_g := tb_mem 603 (by decide +kernel) (by decide +kernel)
theorem tw604 : Cond.methodLink "PartRoomLaw" (17 : Nat) ({ cls := "PartRoomModel", name := "bar", desc := "(I)I" } : MethodName) ∈ lw_g := tb_mem 604 (by decide +kernel) (by decide +kernel)
theorem tw605 : Cond.instanceMethod ({ cls := "PartRoomModel", name := "bar", desc := "(I)I" } : MethodName) ∈ lw_g := tb_mem 605 (by decide +kernel) (by decide +kernel)
theorem tw606 : Cond.selects "PartRoomModel" ({ cls := "PartRoomModel", name := "bar", desc := "(I)I" } : MethodName) ({ cls := "PartRoomModel", name := "bar", desc := "(I)I" } : MethodName) ∈ lw_g := tb_mem 606 (by decide +kernel) (by decide +kernel)
theorem tw607 : Cond.code ({ cls := "PartRoomModel", name := "bar", desc := "(I)I" } : MethodName) prog_8_method_8_code (2 : Nat) (Option.some FieldType.int) ∈ lw_g := tb_mem 607 (by decide +kernel) (by decide +kernel)
theorem tw608 : Cond.methodLink "PartRoomModel" (85 : Nat) ({ cls := "PartRoomModel", name := "in", desc := "(III)Z" } : MethodName) ∈ lw_g := tb_mem 608 (by decide +kernel) (by decide +kernel)
theorem tw609 : Cond.static ({ cls := "PartRoomModel", name := "in", desc := "(III)Z" } : MethodName) ∈ lw_g := tb_mem 609 (by decide +kernel) (by decide +kernel)
theorem tw610 : Cond.code ({ cls := "PartRoomModel", name := "in", desc := "(III)Z" } : MethodName) prog_8_method_3_code (3 : Nat) (Option.some FieldType.boolean) ∈ lw_g := tb_mem 610 (by decide +kernel) (by decide +kernel)
theorem tw611 : Cond.methodLink "PartRoomModel" (92 : Nat) ({ cls := "PartRoomModel", name := "finds", desc := "(I)I" } : MethodName) ∈ lw_g := tb_mem 611 (by decide +kernel) (by decide +kernel)
theorem tw613 : Cond.instanceMethod ({ cls := "PartRoomModel", name := "finds", desc := "(I)I" } : MethodName) ∈ lw_g := tb_mem 613 (by decide +kernel) (by decide +kernel)
theorem tw614 : Cond.code ({ cls := "PartRoomModel", name := "finds", desc := "(I)I" } : MethodName) prog_8_method_4_code (2 : Nat) (Option.some FieldType.int) ∈ lw_g := tb_mem 614 (by decide +kernel) (by decide +kernel)
theorem tw615 : Cond.constant "PartRoomModel" (81 : Nat) (-1000000 : Int32) ∈ lw_g := tb_mem 615 (by decide +kernel) (by decide +kernel)
theorem tw616 : Cond.methodLink "PartRoomLaw" (22 : Nat) ({ cls := "PartRoomModel", name := "voice", desc := "(II)I" } : MethodName) ∈ lw_g := tb_mem 616 (by decide +kernel) (by decide +kernel)
theorem tw617 : Cond.instanceMethod ({ cls := "PartRoomModel", name := "voice", desc := "(II)I" } : MethodName) ∈ lw_g := tb_mem 617 (by decide +kernel) (by decide +kernel)
theorem tw618 : Cond.selects "PartRoomModel" ({ cls := "PartRoomModel", name := "voice", desc := "(II)I" } : MethodName) ({ cls := "PartRoomModel", name := "voice", desc := "(II)I" } : MethodName) ∈ lw_g := tb_mem 618 (by decide +kernel) (by decide +kernel)
theorem tw619 : Cond.code ({ cls := "PartRoomModel", name := "voice", desc := "(II)I" } : MethodName) prog_8_method_9_code (3 : Nat) (Option.some FieldType.int) ∈ lw_g := tb_mem 619 (by decide +kernel) (by decide +kernel)
theorem tw620 : Cond.methodLink "PartRoomLaw" (26 : Nat) ({ cls := "PartRoomModel", name := "as", desc := "(II)I" } : MethodName) ∈ lw_g := tb_mem 620 (by decide +kernel) (by decide +kernel)
theorem tw621 : Cond.instanceMethod ({ cls := "PartRoomModel", name := "as", desc := "(II)I" } : MethodName) ∈ lw_g := tb_mem 621 (by decide +kernel) (by decide +kernel)
theorem tw622 : Cond.selects "PartRoomModel" ({ cls := "PartRoomModel", name := "as", desc := "(II)I" } : MethodName) ({ cls := "PartRoomModel", name := "as", desc := "(II)I" } : MethodName) ∈ lw_g := tb_mem 622 (by decide +kernel) (by decide +kernel)
theorem tw623 : Cond.code ({ cls := "PartRoomModel", name := "as", desc := "(II)I" } : MethodName) prog_8_method_10_code (3 : Nat) (Option.some FieldType.int) ∈ lw_g := tb_mem 623 (by decide +kernel) (by decide +kernel)
theorem tw624 : Cond.methodLink "PartRoomModel" (96 : Nat) ({ cls := "PartRoomModel", name := "isVoice", desc := "(I)Z" } : MethodName) ∈ lw_g := tb_mem 624 (by decide +kernel) (by decide +kernel)
theorem tw626 : Cond.instanceMethod ({ cls := "PartRoomModel", name := "isVoice", desc := "(I)Z" } : MethodName) ∈ lw_g := tb_mem 626 (by decide +kernel) (by decide +kernel)
theorem tw627 : Cond.code ({ cls := "PartRoomModel", name := "isVoice", desc := "(I)Z" } : MethodName) prog_8_method_6_code (2 : Nat) (Option.some FieldType.boolean) ∈ lw_g := tb_mem 627 (by decide +kernel) (by decide +kernel)
theorem tw628 : Cond.methodLink "PartRoomLaw" (31 : Nat) ({ cls := "PartRoomModel", name := "notes", desc := "(IIII)I" } : MethodName) ∈ lw_g := tb_mem 628 (by decide +kernel) (by decide +kernel)
theorem tw629 : Cond.instanceMethod ({ cls := "PartRoomModel", name := "notes", desc := "(IIII)I" } : MethodName) ∈ lw_g := tb_mem 629 (by decide +kernel) (by decide +kernel)
theorem tw630 : Cond.selects "PartRoomModel" ({ cls := "PartRoomModel", name := "notes", desc := "(IIII)I" } : MethodName) ({ cls := "PartRoomModel", name := "notes", desc := "(IIII)I" } : MethodName) ∈ lw_g := tb_mem 630 (by decide +kernel) (by decide +kernel)
theorem tw631 : Cond.code ({ cls := "PartRoomModel", name := "notes", desc := "(IIII)I" } : MethodName) prog_8_method_11_code (6 : Nat) (Option.some FieldType.int) ∈ lw_g := tb_mem 631 (by decide +kernel) (by decide +kernel)
theorem tw632 : Cond.methodLink "PartRoomModel" (100 : Nat) ({ cls := "PartRoomModel", name := "isBar", desc := "(I)Z" } : MethodName) ∈ lw_g := tb_mem 632 (by decide +kernel) (by decide +kernel)
theorem tw634 : Cond.instanceMethod ({ cls := "PartRoomModel", name := "isBar", desc := "(I)Z" } : MethodName) ∈ lw_g := tb_mem 634 (by decide +kernel) (by decide +kernel)
theorem tw635 : Cond.code ({ cls := "PartRoomModel", name := "isBar", desc := "(I)Z" } : MethodName) prog_8_method_5_code (2 : Nat) (Option.some FieldType.boolean) ∈ lw_g := tb_mem 635 (by decide +kernel) (by decide +kernel)
theorem tw636 : Cond.methodLink "PartRoomLaw" (35 : Nat) ({ cls := "PartRoomModel", name := "sign", desc := "(II)I" } : MethodName) ∈ lw_g := tb_mem 636 (by decide +kernel) (by decide +kernel)
theorem tw637 : Cond.instanceMethod ({ cls := "PartRoomModel", name := "sign", desc := "(II)I" } : MethodName) ∈ lw_g := tb_mem 637 (by decide +kernel) (by decide +kernel)
theorem tw638 : Cond.selects "PartRoomModel" ({ cls := "PartRoomModel", name := "sign", desc := "(II)I" } : MethodName) ({ cls := "PartRoomModel", name := "sign", desc := "(II)I" } : MethodName) ∈ lw_g := tb_mem 638 (by decide +kernel) (by decide +kernel)
theorem tw639 : Cond.code ({ cls := "PartRoomModel", name := "sign", desc := "(II)I" } : MethodName) prog_8_method_12_code (4 : Nat) (Option.some FieldType.int) ∈ lw_g := tb_mem 639 (by decide +kernel) (by decide +kernel)
theorem tw640 : Cond.methodLink "PartRoomLaw" (40 : Nat) ({ cls := "PartRoomModel", name := "cut", desc := "(III)I" } : MethodName) ∈ lw_g := tb_mem 640 (by decide +kernel) (by decide +kernel)
theorem tw641 : Cond.instanceMethod ({ cls := "PartRoomModel", name := "cut", desc := "(III)I" } : MethodName) ∈ lw_g := tb_mem 641 (by decide +kernel) (by decide +kernel)
theorem tw642 : Cond.selects "PartRoomModel" ({ cls := "PartRoomModel", name := "cut", desc := "(III)I" } : MethodName) ({ cls := "PartRoomModel", name := "cut", desc := "(III)I" } : MethodName) ∈ lw_g := tb_mem 642 (by decide +kernel) (by decide +kernel)
theorem tw643 : Cond.code ({ cls := "PartRoomModel", name := "cut", desc := "(III)I" } : MethodName) prog_8_method_13_code (6 : Nat) (Option.some FieldType.int) ∈ lw_g := tb_mem 643 (by decide +kernel) (by decide +kernel)
theorem tw644 : Cond.methodLink "PartRoomModel" (103 : Nat) ({ cls := "PartRoomModel", name := "isCut", desc := "(I)Z" } : MethodName) ∈ lw_g := tb_mem 644 (by decide +kernel) (by decide +kernel)
theorem tw646 : Cond.instanceMethod ({ cls := "PartRoomModel", name := "isCut", desc := "(I)Z" } : MethodName) ∈ lw_g := tb_mem 646 (by decide +kernel) (by decide +kernel)
theorem tw647 : Cond.code ({ cls := "PartRoomModel", name := "isCut", desc := "(I)Z" } : MethodName) prog_8_method_7_code (2 : Nat) (Option.some FieldType.boolean) ∈ lw_g := tb_mem 647 (by decide +kernel) (by decide +kernel)
theorem tw648 : Cond.methodLink "PartRoomLaw" (44 : Nat) ({ cls := "PartRoomModel", name := "stage", desc := "(II)I" } : MethodName) ∈ lw_g := tb_mem 648 (by decide +kernel) (by decide +kernel)
theorem tw649 : Cond.instanceMethod ({ cls := "PartRoomModel", name := "stage", desc := "(II)I" } : MethodName) ∈ lw_g := tb_mem 649 (by decide +kernel) (by decide +kernel)
theorem tw650 : Cond.selects "PartRoomModel" ({ cls := "PartRoomModel", name := "stage", desc := "(II)I" } : MethodName) ({ cls := "PartRoomModel", name := "stage", desc := "(II)I" } : MethodName) ∈ lw_g := tb_mem 650 (by decide +kernel) (by decide +kernel)
theorem tw651 : Cond.code ({ cls := "PartRoomModel", name := "stage", desc := "(II)I" } : MethodName) prog_8_method_14_code (4 : Nat) (Option.some FieldType.int) ∈ lw_g := tb_mem 651 (by decide +kernel) (by decide +kernel)
theorem tw652 : Cond.methodLink "PartRoomLaw" (48 : Nat) ({ cls := "PartRoomModel", name := "rest", desc := "(II)I" } : MethodName) ∈ lw_g := tb_mem 652 (by decide +kernel) (by decide +kernel)
theorem tw653 : Cond.instanceMethod ({ cls := "PartRoomModel", name := "rest", desc := "(II)I" } : MethodName) ∈ lw_g := tb_mem 653 (by decide +kernel) (by decide +kernel)
theorem tw654 : Cond.selects "PartRoomModel" ({ cls := "PartRoomModel", name := "rest", desc := "(II)I" } : MethodName) ({ cls := "PartRoomModel", name := "rest", desc := "(II)I" } : MethodName) ∈ lw_g := tb_mem 654 (by decide +kernel) (by decide +kernel)
theorem tw655 : Cond.code ({ cls := "PartRoomModel", name := "rest", desc := "(II)I" } : MethodName) prog_8_method_19_code (5 : Nat) (Option.some FieldType.int) ∈ lw_g := tb_mem 655 (by decide +kernel) (by decide +kernel)
theorem tw656 : Cond.methodLink "PartRoomModel" (116 : Nat) ({ cls := "PartRoomModel", name := "findRow", desc := "()V" } : MethodName) ∈ lw_g := tb_mem 656 (by decide +kernel) (by decide +kernel)
theorem tw658 : Cond.instanceMethod ({ cls := "PartRoomModel", name := "findRow", desc := "()V" } : MethodName) ∈ lw_g := tb_mem 658 (by decide +kernel) (by decide +kernel)
theorem tw659 : Cond.code ({ cls := "PartRoomModel", name := "findRow", desc := "()V" } : MethodName) prog_8_method_15_code (2 : Nat) (Option.none : Option FieldType) ∈ lw_g := tb_mem 659 (by decide +kernel) (by decide +kernel)
theorem tw660 : Cond.methodLink "PartRoomModel" (113 : Nat) ({ cls := "PartRoomModel", name := "begins", desc := "(II)Z" } : MethodName) ∈ lw_g := tb_mem 660 (by decide +kernel) (by decide +kernel)
theorem tw662 : Cond.instanceMethod ({ cls := "PartRoomModel", name := "begins", desc := "(II)Z" } : MethodName) ∈ lw_g := tb_mem 662 (by decide +kernel) (by decide +kernel)
theorem tw663 : Cond.code ({ cls := "PartRoomModel", name := "begins", desc := "(II)Z" } : MethodName) prog_8_method_17_code (3 : Nat) (Option.some FieldType.boolean) ∈ lw_g := tb_mem 663 (by decide +kernel) (by decide +kernel)
theorem tw664 : Cond.methodLink "PartRoomModel" (109 : Nat) ({ cls := "PartRoomModel", name := "rests", desc := "(II)Z" } : MethodName) ∈ lw_g := tb_mem 664 (by decide +kernel) (by decide +kernel)
theorem tw666 : Cond.instanceMethod ({ cls := "PartRoomModel", name := "rests", desc := "(II)Z" } : MethodName) ∈ lw_g := tb_mem 666 (by decide +kernel) (by decide +kernel)
theorem tw667 : Cond.code ({ cls := "PartRoomModel", name := "rests", desc := "(II)Z" } : MethodName) prog_8_method_16_code (3 : Nat) (Option.some FieldType.boolean) ∈ lw_g := tb_mem 667 (by decide +kernel) (by decide +kernel)
theorem tw668 : Cond.methodLink "PartRoomModel" (119 : Nat) ({ cls := "PartRoomModel", name := "restsFrom", desc := "(II)I" } : MethodName) ∈ lw_g := tb_mem 668 (by decide +kernel) (by decide +kernel)
theorem tw670 : Cond.instanceMethod ({ cls := "PartRoomModel", name := "restsFrom", desc := "(II)I" } : MethodName) ∈ lw_g := tb_mem 670 (by decide +kernel) (by decide +kernel)
theorem tw671 : Cond.code ({ cls := "PartRoomModel", name := "restsFrom", desc := "(II)I" } : MethodName) prog_8_method_18_code (4 : Nat) (Option.some FieldType.int) ∈ lw_g := tb_mem 671 (by decide +kernel) (by decide +kernel)
theorem tw672 : Cond.methodLink "PartRoomLaw" (52 : Nat) ({ cls := "PartRoomModel", name := "cue", desc := "(II)I" } : MethodName) ∈ lw_g := tb_mem 672 (by decide +kernel) (by decide +kernel)
theorem tw673 : Cond.instanceMethod ({ cls := "PartRoomModel", name := "cue", desc := "(II)I" } : MethodName) ∈ lw_g := tb_mem 673 (by decide +kernel) (by decide +kernel)
theorem tw674 : Cond.selects "PartRoomModel" ({ cls := "PartRoomModel", name := "cue", desc := "(II)I" } : MethodName) ({ cls := "PartRoomModel", name := "cue", desc := "(II)I" } : MethodName) ∈ lw_g := tb_mem 674 (by decide +kernel) (by decide +kernel)
theorem tw675 : Cond.code ({ cls := "PartRoomModel", name := "cue", desc := "(II)I" } : MethodName) prog_8_method_21_code (4 : Nat) (Option.some FieldType.int) ∈ lw_g := tb_mem 675 (by decide +kernel) (by decide +kernel)
theorem tw676 : Cond.methodLink "PartRoomModel" (123 : Nat) ({ cls := "PartRoomModel", name := "cueAt", desc := "(II)I" } : MethodName) ∈ lw_g := tb_mem 676 (by decide +kernel) (by decide +kernel)
theorem tw678 : Cond.instanceMethod ({ cls := "PartRoomModel", name := "cueAt", desc := "(II)I" } : MethodName) ∈ lw_g := tb_mem 678 (by decide +kernel) (by decide +kernel)
theorem tw679 : Cond.code ({ cls := "PartRoomModel", name := "cueAt", desc := "(II)I" } : MethodName) prog_8_method_20_code (7 : Nat) (Option.some FieldType.int) ∈ lw_g := tb_mem 679 (by decide +kernel) (by decide +kernel)
theorem tw680 : Cond.methodLink "PartRoomLaw" (56 : Nat) ({ cls := "PartRoomModel", name := "key", desc := "(I)I" } : MethodName) ∈ lw_g := tb_mem 680 (by decide +kernel) (by decide +kernel)
theorem tw681 : Cond.instanceMethod ({ cls := "PartRoomModel", name := "key", desc := "(I)I" } : MethodName) ∈ lw_g := tb_mem 681 (by decide +kernel) (by decide +kernel)
theorem tw682 : Cond.selects "PartRoomModel" ({ cls := "PartRoomModel", name := "key", desc := "(I)I" } : MethodName) ({ cls := "PartRoomModel", name := "key", desc := "(I)I" } : MethodName) ∈ lw_g := tb_mem 682 (by decide +kernel) (by decide +kernel)
theorem tw683 : Cond.code ({ cls := "PartRoomModel", name := "key", desc := "(I)I" } : MethodName) prog_8_method_22_code (3 : Nat) (Option.some FieldType.int) ∈ lw_g := tb_mem 683 (by decide +kernel) (by decide +kernel)
theorem tw684 : Cond.methodLink "PartRoomLaw" (60 : Nat) ({ cls := "PartRoomModel", name := "written", desc := "(I)I" } : MethodName) ∈ lw_g := tb_mem 684 (by decide +kernel) (by decide +kernel)
theorem tw685 : Cond.instanceMethod ({ cls := "PartRoomModel", name := "written", desc := "(I)I" } : MethodName) ∈ lw_g := tb_mem 685 (by decide +kernel) (by decide +kernel)
theorem tw686 : Cond.selects "PartRoomModel" ({ cls := "PartRoomModel", name := "written", desc := "(I)I" } : MethodName) ({ cls := "PartRoomModel", name := "written", desc := "(I)I" } : MethodName) ∈ lw_g := tb_mem 686 (by decide +kernel) (by decide +kernel)
theorem tw687 : Cond.code ({ cls := "PartRoomModel", name := "written", desc := "(I)I" } : MethodName) prog_8_method_23_code (3 : Nat) (Option.some FieldType.int) ∈ lw_g := tb_mem 687 (by decide +kernel) (by decide +kernel)
theorem tw688 : Cond.methodLink "PartRoomLaw" (64 : Nat) ({ cls := "PartRoomModel", name := "due", desc := "(I)I" } : MethodName) ∈ lw_g := tb_mem 688 (by decide +kernel) (by decide +kernel)
theorem tw689 : Cond.instanceMethod ({ cls := "PartRoomModel", name := "due", desc := "(I)I" } : MethodName) ∈ lw_g := tb_mem 689 (by decide +kernel) (by decide +kernel)
theorem tw690 : Cond.selects "PartRoomModel" ({ cls := "PartRoomModel", name := "due", desc := "(I)I" } : MethodName) ({ cls := "PartRoomModel", name := "due", desc := "(I)I" } : MethodName) ∈ lw_g := tb_mem 690 (by decide +kernel) (by decide +kernel)
theorem tw691 : Cond.code ({ cls := "PartRoomModel", name := "due", desc := "(I)I" } : MethodName) prog_8_method_24_code (3 : Nat) (Option.some FieldType.int) ∈ lw_g := tb_mem 691 (by decide +kernel) (by decide +kernel)
theorem tw692 : Cond.methodLink "PartRoomLaw" (68 : Nat) ({ cls := "PartRoomModel", name := "paper", desc := "(II)I" } : MethodName) ∈ lw_g := tb_mem 692 (by decide +kernel) (by decide +kernel)
theorem tw693 : Cond.instanceMethod ({ cls := "PartRoomModel", name := "paper", desc := "(II)I" } : MethodName) ∈ lw_g := tb_mem 693 (by decide +kernel) (by decide +kernel)
theorem tw694 : Cond.selects "PartRoomModel" ({ cls := "PartRoomModel", name := "paper", desc := "(II)I" } : MethodName) ({ cls := "PartRoomModel", name := "paper", desc := "(II)I" } : MethodName) ∈ lw_g := tb_mem 694 (by decide +kernel) (by decide +kernel)
theorem tw695 : Cond.code ({ cls := "PartRoomModel", name := "paper", desc := "(II)I" } : MethodName) prog_8_method_25_code (3 : Nat) (Option.some FieldType.int) ∈ lw_g := tb_mem 695 (by decide +kernel) (by decide +kernel)
theorem tw696 : Cond.methodLink "PartRoomLaw" (72 : Nat) ({ cls := "PartRoomModel", name := "need", desc := "(I)I" } : MethodName) ∈ lw_g := tb_mem 696 (by decide +kernel) (by decide +kernel)
theorem tw697 : Cond.instanceMethod ({ cls := "PartRoomModel", name := "need", desc := "(I)I" } : MethodName) ∈ lw_g := tb_mem 697 (by decide +kernel) (by decide +kernel)
theorem tw698 : Cond.selects "PartRoomModel" ({ cls := "PartRoomModel", name := "need", desc := "(I)I" } : MethodName) ({ cls := "PartRoomModel", name := "need", desc := "(I)I" } : MethodName) ∈ lw_g := tb_mem 698 (by decide +kernel) (by decide +kernel)
theorem tw699 : Cond.code ({ cls := "PartRoomModel", name := "need", desc := "(I)I" } : MethodName) prog_8_method_26_code (3 : Nat) (Option.some FieldType.int) ∈ lw_g := tb_mem 699 (by decide +kernel) (by decide +kernel)
theorem tw700 : Cond.methodLink "PartRoomLaw" (76 : Nat) ({ cls := "PartRoomModel", name := "pages", desc := "(II)I" } : MethodName) ∈ lw_g := tb_mem 700 (by decide +kernel) (by decide +kernel)
theorem tw701 : Cond.instanceMethod ({ cls := "PartRoomModel", name := "pages", desc := "(II)I" } : MethodName) ∈ lw_g := tb_mem 701 (by decide +kernel) (by decide +kernel)
theorem tw702 : Cond.selects "PartRoomModel" ({ cls := "PartRoomModel", name := "pages", desc := "(II)I" } : MethodName) ({ cls := "PartRoomModel", name := "pages", desc := "(II)I" } : MethodName) ∈ lw_g := tb_mem 702 (by decide +kernel) (by decide +kernel)
theorem tw703 : Cond.code ({ cls := "PartRoomModel", name := "pages", desc := "(II)I" } : MethodName) prog_8_method_32_code (3 : Nat) (Option.some FieldType.int) ∈ lw_g := tb_mem 703 (by decide +kernel) (by decide +kernel)
theorem tw704 : Cond.methodLink "PartRoomModel" (143 : Nat) ({ cls := "PartRoomModel", name := "findPages", desc := "(I)V" } : MethodName) ∈ lw_g := tb_mem 704 (by decide +kernel) (by decide +kernel)
theorem tw706 : Cond.instanceMethod ({ cls := "PartRoomModel", name := "findPages", desc := "(I)V" } : MethodName) ∈ lw_g := tb_mem 706 (by decide +kernel) (by decide +kernel)
theorem tw707 : Cond.code ({ cls := "PartRoomModel", name := "findPages", desc := "(I)V" } : MethodName) prog_8_method_31_code (6 : Nat) (Option.none : Option FieldType) ∈ lw_g := tb_mem 707 (by decide +kernel) (by decide +kernel)
theorem tw708 : Cond.methodLink "PartRoomModel" (136 : Nat) ({ cls := "PartRoomModel", name := "systemsOf", desc := "(III)I" } : MethodName) ∈ lw_g := tb_mem 708 (by decide +kernel) (by decide +kernel)
theorem tw710 : Cond.instanceMethod ({ cls := "PartRoomModel", name := "systemsOf", desc := "(III)I" } : MethodName) ∈ lw_g := tb_mem 710 (by decide +kernel) (by decide +kernel)
theorem tw711 : Cond.code ({ cls := "PartRoomModel", name := "systemsOf", desc := "(III)I" } : MethodName) prog_8_method_27_code (9 : Nat) (Option.some FieldType.int) ∈ lw_g := tb_mem 711 (by decide +kernel) (by decide +kernel)
theorem tw712 : Cond.methodLink "PartRoomModel" (129 : Nat) ({ cls := "PartRoomModel", name := "widthOf", desc := "(IIZ)I" } : MethodName) ∈ lw_g := tb_mem 712 (by decide +kernel) (by decide +kernel)
theorem tw714 : Cond.instanceMethod ({ cls := "PartRoomModel", name := "widthOf", desc := "(IIZ)I" } : MethodName) ∈ lw_g := tb_mem 714 (by decide +kernel) (by decide +kernel)
theorem tw715 : Cond.code ({ cls := "PartRoomModel", name := "widthOf", desc := "(IIZ)I" } : MethodName) prog_8_method_28_code (4 : Nat) (Option.some FieldType.int) ∈ lw_g := tb_mem 715 (by decide +kernel) (by decide +kernel)
theorem tw716 : Cond.methodLink "PartRoomModel" (140 : Nat) ({ cls := "PartRoomModel", name := "isBad", desc := "(II)Z" } : MethodName) ∈ lw_g := tb_mem 716 (by decide +kernel) (by decide +kernel)
theorem tw718 : Cond.instanceMethod ({ cls := "PartRoomModel", name := "isBad", desc := "(II)Z" } : MethodName) ∈ lw_g := tb_mem 718 (by decide +kernel) (by decide +kernel)
theorem tw719 : Cond.code ({ cls := "PartRoomModel", name := "isBad", desc := "(II)Z" } : MethodName) prog_8_method_30_code (3 : Nat) (Option.some FieldType.boolean) ∈ lw_g := tb_mem 719 (by decide +kernel) (by decide +kernel)
theorem tw720 : Cond.methodLink "PartRoomModel" (133 : Nat) ({ cls := "PartRoomModel", name := "freeAt", desc := "(II)I" } : MethodName) ∈ lw_g := tb_mem 720 (by decide +kernel) (by decide +kernel)
theorem tw722 : Cond.instanceMethod ({ cls := "PartRoomModel", name := "freeAt", desc := "(II)I" } : MethodName) ∈ lw_g := tb_mem 722 (by decide +kernel) (by decide +kernel)
theorem tw723 : Cond.code ({ cls := "PartRoomModel", name := "freeAt", desc := "(II)I" } : MethodName) prog_8_method_29_code (5 : Nat) (Option.some FieldType.int) ∈ lw_g := tb_mem 723 (by decide +kernel) (by decide +kernel)
theorem tw724 : Cond.methodLink "PartRoomLaw" (80 : Nat) ({ cls := "PartRoomModel", name := "page", desc := "(II)I" } : MethodName) ∈ lw_g := tb_mem 724 (by decide +kernel) (by decide +kernel)
theorem tw725 : Cond.instanceMethod ({ cls := "PartRoomModel", name := "page", desc := "(II)I" } : MethodName) ∈ lw_g := tb_mem 725 (by decide +kernel) (by decide +kernel)
theorem tw726 : Cond.selects "PartRoomModel" ({ cls := "PartRoomModel", name := "page", desc := "(II)I" } : MethodName) ({ cls := "PartRoomModel", name := "page", desc := "(II)I" } : MethodName) ∈ lw_g := tb_mem 726 (by decide +kernel) (by decide +kernel)
theorem tw727 : Cond.code ({ cls := "PartRoomModel", name := "page", desc := "(II)I" } : MethodName) prog_8_method_34_code (4 : Nat) (Option.some FieldType.int) ∈ lw_g := tb_mem 727 (by decide +kernel) (by decide +kernel)
theorem tw728 : Cond.methodLink "PartRoomModel" (147 : Nat) ({ cls := "PartRoomModel", name := "pageAt", desc := "(II)I" } : MethodName) ∈ lw_g := tb_mem 728 (by decide +kernel) (by decide +kernel)
theorem tw730 : Cond.instanceMethod ({ cls := "PartRoomModel", name := "pageAt", desc := "(II)I" } : MethodName) ∈ lw_g := tb_mem 730 (by decide +kernel) (by decide +kernel)
theorem tw731 : Cond.code ({ cls := "PartRoomModel", name := "pageAt", desc := "(II)I" } : MethodName) prog_8_method_33_code (5 : Nat) (Option.some FieldType.int) ∈ lw_g := tb_mem 731 (by decide +kernel) (by decide +kernel)
theorem tw732 : Cond.methodLink "PartRoomLaw" (84 : Nat) ({ cls := "PartRoomModel", name := "free", desc := "(II)I" } : MethodName) ∈ lw_g := tb_mem 732 (by decide +kernel) (by decide +kernel)
theorem tw733 : Cond.instanceMethod ({ cls := "PartRoomModel", name := "free", desc := "(II)I" } : MethodName) ∈ lw_g := tb_mem 733 (by decide +kernel) (by decide +kernel)
theorem tw734 : Cond.selects "PartRoomModel" ({ cls := "PartRoomModel", name := "free", desc := "(II)I" } : MethodName) ({ cls := "PartRoomModel", name := "free", desc := "(II)I" } : MethodName) ∈ lw_g := tb_mem 734 (by decide +kernel) (by decide +kernel)
theorem tw735 : Cond.code ({ cls := "PartRoomModel", name := "free", desc := "(II)I" } : MethodName) prog_8_method_35_code (4 : Nat) (Option.some FieldType.int) ∈ lw_g := tb_mem 735 (by decide +kernel) (by decide +kernel)
theorem tw736 : Cond.methodLink "PartRoomLaw" (88 : Nat) ({ cls := "PartRoomModel", name := "systems", desc := "(II)I" } : MethodName) ∈ lw_g := tb_mem 736 (by decide +kernel) (by decide +kernel)
theorem tw737 : Cond.instanceMethod ({ cls := "PartRoomModel", name := "systems", desc := "(II)I" } : MethodName) ∈ lw_g := tb_mem 737 (by decide +kernel) (by decide +kernel)
theorem tw738 : Cond.selects "PartRoomModel" ({ cls := "PartRoomModel", name := "systems", desc := "(II)I" } : MethodName) ({ cls := "PartRoomModel", name := "systems", desc := "(II)I" } : MethodName) ∈ lw_g := tb_mem 738 (by decide +kernel) (by decide +kernel)
theorem tw739 : Cond.code ({ cls := "PartRoomModel", name := "systems", desc := "(II)I" } : MethodName) prog_8_method_36_code (4 : Nat) (Option.some FieldType.int) ∈ lw_g := tb_mem 739 (by decide +kernel) (by decide +kernel)
theorem tw740 : Cond.methodLink "PartRoomLaw" (92 : Nat) ({ cls := "PartRoomModel", name := "lay", desc := "(I)I" } : MethodName) ∈ lw_g := tb_mem 740 (by decide +kernel) (by decide +kernel)
theorem tw741 : Cond.instanceMethod ({ cls := "PartRoomModel", name := "lay", desc := "(I)I" } : MethodName) ∈ lw_g := tb_mem 741 (by decide +kernel) (by decide +kernel)
theorem tw742 : Cond.selects "PartRoomModel" ({ cls := "PartRoomModel", name := "lay", desc := "(I)I" } : MethodName) ({ cls := "PartRoomModel", name := "lay", desc := "(I)I" } : MethodName) ∈ lw_g := tb_mem 742 (by decide +kernel) (by decide +kernel)
theorem tw743 : Cond.code ({ cls := "PartRoomModel", name := "lay", desc := "(I)I" } : MethodName) prog_8_method_37_code (6 : Nat) (Option.some FieldType.int) ∈ lw_g := tb_mem 743 (by decide +kernel) (by decide +kernel)
theorem tw744 : Cond.methodLink "PartRoomLaw" (96 : Nat) ({ cls := "PartRoomModel", name := "stale", desc := "(I)I" } : MethodName) ∈ lw_g := tb_mem 744 (by decide +kernel) (by decide +kernel)
theorem tw745 : Cond.instanceMethod ({ cls := "PartRoomModel", name := "stale", desc := "(I)I" } : MethodName) ∈ lw_g := tb_mem 745 (by decide +kernel) (by decide +kernel)
theorem tw746 : Cond.selects "PartRoomModel" ({ cls := "PartRoomModel", name := "stale", desc := "(I)I" } : MethodName) ({ cls := "PartRoomModel", name := "stale", desc := "(I)I" } : MethodName) ∈ lw_g := tb_mem 746 (by decide +kernel) (by decide +kernel)
theorem tw747 : Cond.code ({ cls := "PartRoomModel", name := "stale", desc := "(I)I" } : MethodName) prog_8_method_38_code (5 : Nat) (Option.some FieldType.int) ∈ lw_g := tb_mem 747 (by decide +kernel) (by decide +kernel)
theorem tw748 : Cond.methodLink "PartRoomLaw" (100 : Nat) ({ cls := "PartRoomModel", name := "tell", desc := "(I)I" } : MethodName) ∈ lw_g := tb_mem 748 (by decide +kernel) (by decide +kernel)
theorem tw749 : Cond.instanceMethod ({ cls := "PartRoomModel", name := "tell", desc := "(I)I" } : MethodName) ∈ lw_g := tb_mem 749 (by decide +kernel) (by decide +kernel)
theorem tw750 : Cond.selects "PartRoomModel" ({ cls := "PartRoomModel", name := "tell", desc := "(I)I" } : MethodName) ({ cls := "PartRoomModel", name := "tell", desc := "(I)I" } : MethodName) ∈ lw_g := tb_mem 750 (by decide +kernel) (by decide +kernel)
theorem tw751 : Cond.code ({ cls := "PartRoomModel", name := "tell", desc := "(I)I" } : MethodName) prog_8_method_39_code (2 : Nat) (Option.some FieldType.int) ∈ lw_g := tb_mem 751 (by decide +kernel) (by decide +kernel)
theorem tw752 : Cond.methodLink "PartRoomLaw" (104 : Nat) ({ cls := "PartRoomModel", name := "check", desc := "(I)I" } : MethodName) ∈ lw_g := tb_mem 752 (by decide +kernel) (by decide +kernel)
theorem tw753 : Cond.instanceMethod ({ cls := "PartRoomModel", name := "check", desc := "(I)I" } : MethodName) ∈ lw_g := tb_mem 753 (by decide +kernel) (by decide +kernel)
theorem tw754 : Cond.selects "PartRoomModel" ({ cls := "PartRoomModel", name := "check", desc := "(I)I" } : MethodName) ({ cls := "PartRoomModel", name := "check", desc := "(I)I" } : MethodName) ∈ lw_g := tb_mem 754 (by decide +kernel) (by decide +kernel)
theorem tw755 : Cond.code ({ cls := "PartRoomModel", name := "check", desc := "(I)I" } : MethodName) prog_8_method_40_code (7 : Nat) (Option.some FieldType.int) ∈ lw_g := tb_mem 755 (by decide +kernel) (by decide +kernel)
theorem tw756 : Cond.methodLink "PartRoomLaw" (108 : Nat) ({ cls := "PartRoomModel", name := "count", desc := "(I)I" } : MethodName) ∈ lw_g := tb_mem 756 (by decide +kernel) (by decide +kernel)
theorem tw757 : Cond.instanceMethod ({ cls := "PartRoomModel", name := "count", desc := "(I)I" } : MethodName) ∈ lw_g := tb_mem 757 (by decide +kernel) (by decide +kernel)
theorem tw758 : Cond.selects "PartRoomModel" ({ cls := "PartRoomModel", name := "count", desc := "(I)I" } : MethodName) ({ cls := "PartRoomModel", name := "count", desc := "(I)I" } : MethodName) ∈ lw_g := tb_mem 758 (by decide +kernel) (by decide +kernel)
theorem tw759 : Cond.code ({ cls := "PartRoomModel", name := "count", desc := "(I)I" } : MethodName) prog_8_method_41_code (4 : Nat) (Option.some FieldType.int) ∈ lw_g := tb_mem 759 (by decide +kernel) (by decide +kernel)
theorem tw760 : Cond.methodLink "PartRoomLaw" (112 : Nat) ({ cls := "PartRoomModel", name := "found", desc := "(I)I" } : MethodName) ∈ lw_g := tb_mem 760 (by decide +kernel) (by decide +kernel)
theorem tw761 : Cond.instanceMethod ({ cls := "PartRoomModel", name := "found", desc := "(I)I" } : MethodName) ∈ lw_g := tb_mem 761 (by decide +kernel) (by decide +kernel)
theorem tw762 : Cond.selects "PartRoomModel" ({ cls := "PartRoomModel", name := "found", desc := "(I)I" } : MethodName) ({ cls := "PartRoomModel", name := "found", desc := "(I)I" } : MethodName) ∈ lw_g := tb_mem 762 (by decide +kernel) (by decide +kernel)
theorem tw763 : Cond.code ({ cls := "PartRoomModel", name := "found", desc := "(I)I" } : MethodName) prog_8_method_42_code (2 : Nat) (Option.some FieldType.int) ∈ lw_g := tb_mem 763 (by decide +kernel) (by decide +kernel)
theorem ts0 : Cond.selects "PartRoom" ⟨"PartRoom", "answer", "(I)I"⟩ ⟨"PartRoom", "answer", "(I)I"⟩ ∈ lw_g := tb_sel 0 (by decide +kernel) (by decide +kernel)
theorem ts1 : Cond.selects "PartRoom$Part" ⟨"PartRoom$Part", "bears", "(II)Z"⟩ ⟨"PartRoom$Part", "bears", "(II)Z"⟩ ∈ lw_g := tb_sel 1 (by decide +kernel) (by decide +kernel)
theorem ts2 : Cond.selects "PartRoom$Part" ⟨"PartRoom$Part", "has", "(I)Z"⟩ ⟨"PartRoom$Part", "has", "(I)Z"⟩ ∈ lw_g := tb_sel 2 (by decide +kernel) (by decide +kernel)
theorem ts3 : Cond.selects "PartRoom$Part" ⟨"PartRoom$Part", "restsAhead", "(I)Z"⟩ ⟨"PartRoom$Part", "restsAhead", "(I)Z"⟩ ∈ lw_g := tb_sel 3 (by decide +kernel) (by decide +kernel)
theorem ts4 : Cond.selects "PartRoom$Part" ⟨"PartRoom$Part", "heardAhead", "(II)I"⟩ ⟨"PartRoom$Part", "heardAhead", "(II)I"⟩ ∈ lw_g := tb_sel 4 (by decide +kernel) (by decide +kernel)
theorem ts5 : Cond.selects "PartRoom" ⟨"PartRoom", "plan", "(ILPartRoom$Voice;)V"⟩ ⟨"PartRoom", "plan", "(ILPartRoom$Voice;)V"⟩ ∈ lw_g := tb_sel 5 (by decide +kernel) (by decide +kernel)
theorem ts6 : Cond.selects "PartRoom$Layout" ⟨"PartRoom$Layout", "measure", "()V"⟩ ⟨"PartRoom$Layout", "measure", "()V"⟩ ∈ lw_g := tb_sel 6 (by decide +kernel) (by decide +kernel)
theorem ts7 : Cond.selects "PartRoom$Layout" ⟨"PartRoom$Layout", "timeTurns", "()V"⟩ ⟨"PartRoom$Layout", "timeTurns", "()V"⟩ ∈ lw_g := tb_sel 7 (by decide +kernel) (by decide +kernel)
theorem ts8 : Cond.selects "PartRoom$Layout" ⟨"PartRoom$Layout", "chooseFrom", "(I)V"⟩ ⟨"PartRoom$Layout", "chooseFrom", "(I)V"⟩ ∈ lw_g := tb_sel 8 (by decide +kernel) (by decide +kernel)
theorem ts9 : Cond.selects "PartRoom$Layout" ⟨"PartRoom$Layout", "fill", "(I)I"⟩ ⟨"PartRoom$Layout", "fill", "(I)I"⟩ ∈ lw_g := tb_sel 9 (by decide +kernel) (by decide +kernel)
theorem ts10 : Cond.selects "PartRoom$Layout" ⟨"PartRoom$Layout", "widthAsFirst", "(I)I"⟩ ⟨"PartRoom$Layout", "widthAsFirst", "(I)I"⟩ ∈ lw_g := tb_sel 10 (by decide +kernel) (by decide +kernel)
theorem ts11 : Cond.selects "PartRoom$Layout" ⟨"PartRoom$Layout", "isBadTurn", "(I)Z"⟩ ⟨"PartRoom$Layout", "isBadTurn", "(I)Z"⟩ ∈ lw_g := tb_sel 11 (by decide +kernel) (by decide +kernel)
theorem ts12 : Cond.selects "PartRoom$Layout" ⟨"PartRoom$Layout", "placeOfPage", "(I)I"⟩ ⟨"PartRoom$Layout", "placeOfPage", "(I)I"⟩ ∈ lw_g := tb_sel 12 (by decide +kernel) (by decide +kernel)
theorem ts13 : Cond.selects "PartRoom$Voice" ⟨"PartRoom$Voice", "markOf", "(LPartRoom$Score;I)I"⟩ ⟨"PartRoom$Voice", "markOf", "(LPartRoom$Score;I)I"⟩ ∈ lw_g := tb_sel 13 (by decide +kernel) (by decide +kernel)
theorem ts14 : Cond.selects "PartRoomModel" ⟨"PartRoomModel", "finds", "(I)I"⟩ ⟨"PartRoomModel", "finds", "(I)I"⟩ ∈ lw_g := tb_sel 14 (by decide +kernel) (by decide +kernel)
theorem ts15 : Cond.selects "PartRoomModel" ⟨"PartRoomModel", "isVoice", "(I)Z"⟩ ⟨"PartRoomModel", "isVoice", "(I)Z"⟩ ∈ lw_g := tb_sel 15 (by decide +kernel) (by decide +kernel)
theorem ts16 : Cond.selects "PartRoomModel" ⟨"PartRoomModel", "isBar", "(I)Z"⟩ ⟨"PartRoomModel", "isBar", "(I)Z"⟩ ∈ lw_g := tb_sel 16 (by decide +kernel) (by decide +kernel)
theorem ts17 : Cond.selects "PartRoomModel" ⟨"PartRoomModel", "isCut", "(I)Z"⟩ ⟨"PartRoomModel", "isCut", "(I)Z"⟩ ∈ lw_g := tb_sel 17 (by decide +kernel) (by decide +kernel)
theorem ts18 : Cond.selects "PartRoomModel" ⟨"PartRoomModel", "findRow", "()V"⟩ ⟨"PartRoomModel", "findRow", "()V"⟩ ∈ lw_g := tb_sel 18 (by decide +kernel) (by decide +kernel)
theorem ts19 : Cond.selects "PartRoomModel" ⟨"PartRoomModel", "begins", "(II)Z"⟩ ⟨"PartRoomModel", "begins", "(II)Z"⟩ ∈ lw_g := tb_sel 19 (by decide +kernel) (by decide +kernel)
theorem ts20 : Cond.selects "PartRoomModel" ⟨"PartRoomModel", "rests", "(II)Z"⟩ ⟨"PartRoomModel", "rests", "(II)Z"⟩ ∈ lw_g := tb_sel 20 (by decide +kernel) (by decide +kernel)
theorem ts21 : Cond.selects "PartRoomModel" ⟨"PartRoomModel", "restsFrom", "(II)I"⟩ ⟨"PartRoomModel", "restsFrom", "(II)I"⟩ ∈ lw_g := tb_sel 21 (by decide +kernel) (by decide +kernel)
theorem ts22 : Cond.selects "PartRoomModel" ⟨"PartRoomModel", "cueAt", "(II)I"⟩ ⟨"PartRoomModel", "cueAt", "(II)I"⟩ ∈ lw_g := tb_sel 22 (by decide +kernel) (by decide +kernel)
theorem ts23 : Cond.selects "PartRoomModel" ⟨"PartRoomModel", "findPages", "(I)V"⟩ ⟨"PartRoomModel", "findPages", "(I)V"⟩ ∈ lw_g := tb_sel 23 (by decide +kernel) (by decide +kernel)
theorem ts24 : Cond.selects "PartRoomModel" ⟨"PartRoomModel", "systemsOf", "(III)I"⟩ ⟨"PartRoomModel", "systemsOf", "(III)I"⟩ ∈ lw_g := tb_sel 24 (by decide +kernel) (by decide +kernel)
theorem ts25 : Cond.selects "PartRoomModel" ⟨"PartRoomModel", "widthOf", "(IIZ)I"⟩ ⟨"PartRoomModel", "widthOf", "(IIZ)I"⟩ ∈ lw_g := tb_sel 25 (by decide +kernel) (by decide +kernel)
theorem ts26 : Cond.selects "PartRoomModel" ⟨"PartRoomModel", "isBad", "(II)Z"⟩ ⟨"PartRoomModel", "isBad", "(II)Z"⟩ ∈ lw_g := tb_sel 26 (by decide +kernel) (by decide +kernel)
theorem ts27 : Cond.selects "PartRoomModel" ⟨"PartRoomModel", "freeAt", "(II)I"⟩ ⟨"PartRoomModel", "freeAt", "(II)I"⟩ ∈ lw_g := tb_sel 27 (by decide +kernel) (by decide +kernel)
theorem ts28 : Cond.selects "PartRoomModel" ⟨"PartRoomModel", "pageAt", "(II)I"⟩ ⟨"PartRoomModel", "pageAt", "(II)I"⟩ ∈ lw_g := tb_sel 28 (by decide +kernel) (by decide +kernel)
end
section
theorem dX0_init_0 : decode cX0_init 0 = .ok (.aload_n 0, 1) := by decide +kernel
theorem dX0_init_1 : decode cX0_init 1 = .ok (.invokespecial 3, 3) := by decide +kernel
theorem dX0_init_4 : decode cX0_init 4 = .ok (.aload_n 0, 1) := by decide +kernel
theorem dX0_init_5 : decode cX0_init 5 = .ok (.aload_n 1, 1) := by decide +kernel
theorem dX0_init_6 : decode cX0_init 6 = .ok (.putfield 9, 3) := by decide +kernel
theorem dX0_init_9 : decode cX0_init 9 = .ok (.aload_n 0, 1) := by decide +kernel
theorem dX0_init_10 : decode cX0_init 10 = .ok (.bipush 40, 2) := by decide +kernel
theorem dX0_init_12 : decode cX0_init 12 = .ok (.newarray .int, 2) := by decide +kernel
theorem dX0_init_14 : decode cX0_init 14 = .ok (.putfield 15, 3) := by decide +kernel
theorem dX0_init_17 : decode cX0_init 17 = .ok (.aload_n 0, 1) := by decide +kernel
theorem dX0_init_18 : decode cX0_init 18 = .ok (.bipush 40, 2) := by decide +kernel
theorem dX0_init_20 : decode cX0_init 20 = .ok (.newarray .int, 2) := by decide +kernel
theorem dX0_init_22 : decode cX0_init 22 = .ok (.putfield 19, 3) := by decide +kernel
theorem dX0_init_25 : decode cX0_init 25 = .ok (.aload_n 0, 1) := by decide +kernel
theorem dX0_init_26 : decode cX0_init 26 = .ok (.bipush 40, 2) := by decide +kernel
theorem dX0_init_28 : decode cX0_init 28 = .ok (.newarray .int, 2) := by decide +kernel
theorem dX0_init_30 : decode cX0_init 30 = .ok (.putfield 22, 3) := by decide +kernel
theorem dX0_init_33 : decode cX0_init 33 = .ok (.aload_n 0, 1) := by decide +kernel
theorem dX0_init_34 : decode cX0_init 34 = .ok (.bipush 41, 2) := by decide +kernel
theorem dX0_init_36 : decode cX0_init 36 = .ok (.newarray .int, 2) := by decide +kernel
theorem dX0_init_38 : decode cX0_init 38 = .ok (.putfield 25, 3) := by decide +kernel
theorem dX0_init_41 : decode cX0_init 41 = .ok (.aload_n 0, 1) := by decide +kernel
theorem dX0_init_42 : decode cX0_init 42 = .ok (.bipush 41, 2) := by decide +kernel
theorem dX0_init_44 : decode cX0_init 44 = .ok (.newarray .int, 2) := by decide +kernel
theorem dX0_init_46 : decode cX0_init 46 = .ok (.putfield 28, 3) := by decide +kernel
theorem dX0_init_49 : decode cX0_init 49 = .ok (.aload_n 0, 1) := by decide +kernel
theorem dX0_init_50 : decode cX0_init 50 = .ok (.bipush 41, 2) := by decide +kernel
theorem dX0_init_52 : decode cX0_init 52 = .ok (.newarray .int, 2) := by decide +kernel
theorem dX0_init_54 : decode cX0_init 54 = .ok (.putfield 31, 3) := by decide +kernel
theorem dX0_init_57 : decode cX0_init 57 = .ok (.aload_n 0, 1) := by decide +kernel
theorem dX0_init_58 : decode cX0_init 58 = .ok (.iconst 0, 1) := by decide +kernel
theorem dX0_init_59 : decode cX0_init 59 = .ok (.putfield 34, 3) := by decide +kernel
theorem dX0_init_62 : decode cX0_init 62 = .ok (.aload_n 0, 1) := by decide +kernel
theorem dX0_init_63 : decode cX0_init 63 = .ok (.iconst 0, 1) := by decide +kernel
theorem dX0_init_64 : decode cX0_init 64 = .ok (.putfield 38, 3) := by decide +kernel
theorem dX0_init_67 : decode cX0_init 67 = .ok (.aload_n 0, 1) := by decide +kernel
theorem dX0_init_68 : decode cX0_init 68 = .ok (.iconst 0, 1) := by decide +kernel
theorem dX0_init_69 : decode cX0_init 69 = .ok (.putfield 41, 3) := by decide +kernel
theorem dX0_init_72 : decode cX0_init 72 = .ok (.return_, 1) := by decide +kernel
theorem dX0_plan_0 : decode cX0_plan 0 = .ok (.aload_n 0, 1) := by decide +kernel
theorem dX0_plan_1 : decode cX0_plan 1 = .ok (.iload_n 1, 1) := by decide +kernel
theorem dX0_plan_2 : decode cX0_plan 2 = .ok (.putfield 34, 3) := by decide +kernel
theorem dX0_plan_5 : decode cX0_plan 5 = .ok (.aload_n 0, 1) := by decide +kernel
theorem dX0_plan_6 : decode cX0_plan 6 = .ok (.iload_n 2, 1) := by decide +kernel
theorem dX0_plan_7 : decode cX0_plan 7 = .ok (.putfield 38, 3) := by decide +kernel
theorem dX0_plan_10 : decode cX0_plan 10 = .ok (.aload_n 0, 1) := by decide +kernel
theorem dX0_plan_11 : decode cX0_plan 11 = .ok (.iload_n 3, 1) := by decide +kernel
theorem dX0_plan_12 : decode cX0_plan 12 = .ok (.putfield 41, 3) := by decide +kernel
theorem dX0_plan_15 : decode cX0_plan 15 = .ok (.aload_n 0, 1) := by decide +kernel
theorem dX0_plan_16 : decode cX0_plan 16 = .ok (.invokevirtual 44, 3) := by decide +kernel
theorem dX0_plan_19 : decode cX0_plan 19 = .ok (.aload_n 0, 1) := by decide +kernel
theorem dX0_plan_20 : decode cX0_plan 20 = .ok (.invokevirtual 47, 3) := by decide +kernel
theorem dX0_plan_23 : decode cX0_plan 23 = .ok (.aload_n 0, 1) := by decide +kernel
theorem dX0_plan_24 : decode cX0_plan 24 = .ok (.getfield 9, 3) := by decide +kernel
theorem dX0_plan_27 : decode cX0_plan 27 = .ok (.getfield 50, 3) := by decide +kernel
theorem dX0_plan_30 : decode cX0_plan 30 = .ok (.istore 4, 2) := by decide +kernel
theorem dX0_plan_32 : decode cX0_plan 32 = .ok (.aload_n 0, 1) := by decide +kernel
theorem dX0_plan_33 : decode cX0_plan 33 = .ok (.getfield 25, 3) := by decide +kernel
theorem dX0_plan_36 : decode cX0_plan 36 = .ok (.iload 4, 2) := by decide +kernel
theorem dX0_plan_38 : decode cX0_plan 38 = .ok (.iconst 0, 1) := by decide +kernel
theorem dX0_plan_39 : decode cX0_plan 39 = .ok (.iastore, 1) := by decide +kernel
theorem dX0_plan_40 : decode cX0_plan 40 = .ok (.aload_n 0, 1) := by decide +kernel
theorem dX0_plan_41 : decode cX0_plan 41 = .ok (.getfield 28, 3) := by decide +kernel
theorem dX0_plan_44 : decode cX0_plan 44 = .ok (.iload 4, 2) := by decide +kernel
theorem dX0_plan_46 : decode cX0_plan 46 = .ok (.iconst 0, 1) := by decide +kernel
theorem dX0_plan_47 : decode cX0_plan 47 = .ok (.iastore, 1) := by decide +kernel
theorem dX0_plan_48 : decode cX0_plan 48 = .ok (.aload_n 0, 1) := by decide +kernel
theorem dX0_plan_49 : decode cX0_plan 49 = .ok (.getfield 31, 3) := by decide +kernel
theorem dX0_plan_52 : decode cX0_plan 52 = .ok (.iload 4, 2) := by decide +kernel
theorem dX0_plan_54 : decode cX0_plan 54 = .ok (.iload 4, 2) := by decide +kernel
theorem dX0_plan_56 : decode cX0_plan 56 = .ok (.iastore, 1) := by decide +kernel
theorem dX0_plan_57 : decode cX0_plan 57 = .ok (.iload 4, 2) := by decide +kernel
theorem dX0_plan_59 : decode cX0_plan 59 = .ok (.iconst 1, 1) := by decide +kernel
theorem dX0_plan_60 : decode cX0_plan 60 = .ok (.isub, 1) := by decide +kernel
theorem dX0_plan_61 : decode cX0_plan 61 = .ok (.istore 5, 2) := by decide +kernel
theorem dX0_plan_63 : decode cX0_plan 63 = .ok (.iload 5, 2) := by decide +kernel
theorem dX0_plan_65 : decode cX0_plan 65 = .ok (.ifCond .lt 15, 3) := by decide +kernel
theorem dX0_plan_68 : decode cX0_plan 68 = .ok (.aload_n 0, 1) := by decide +kernel
theorem dX0_plan_69 : decode cX0_plan 69 = .ok (.iload 5, 2) := by decide +kernel
theorem dX0_plan_71 : decode cX0_plan 71 = .ok (.invokevirtual 55, 3) := by decide +kernel
theorem dX0_plan_74 : decode cX0_plan 74 = .ok (.iinc 5 (-1), 3) := by decide +kernel
theorem dX0_plan_77 : decode cX0_plan 77 = .ok (.goto (-14), 3) := by decide +kernel
theorem dX0_plan_80 : decode cX0_plan 80 = .ok (.return_, 1) := by decide +kernel
theorem dX0_measure_0 : decode cX0_measure 0 = .ok (.iconst 0, 1) := by decide +kernel
theorem dX0_measure_1 : decode cX0_measure 1 = .ok (.istore_n 1, 1) := by decide +kernel
theorem dX0_measure_2 : decode cX0_measure 2 = .ok (.iload_n 1, 1) := by decide +kernel
theorem dX0_measure_3 : decode cX0_measure 3 = .ok (.aload_n 0, 1) := by decide +kernel
theorem dX0_measure_4 : decode cX0_measure 4 = .ok (.getfield 9, 3) := by decide +kernel
theorem dX0_measure_7 : decode cX0_measure 7 = .ok (.getfield 50, 3) := by decide +kernel
theorem dX0_measure_10 : decode cX0_measure 10 = .ok (.if_icmp .ge 78, 3) := by decide +kernel
theorem dX0_measure_13 : decode cX0_measure 13 = .ok (.aload_n 0, 1) := by decide +kernel
theorem dX0_measure_14 : decode cX0_measure 14 = .ok (.getfield 9, 3) := by decide +kernel
theorem dX0_measure_17 : decode cX0_measure 17 = .ok (.iload_n 1, 1) := by decide +kernel
theorem dX0_measure_18 : decode cX0_measure 18 = .ok (.invokevirtual 59, 3) := by decide +kernel
theorem dX0_measure_21 : decode cX0_measure 21 = .ok (.ifCond .eq 39, 3) := by decide +kernel
theorem dX0_measure_24 : decode cX0_measure 24 = .ok (.aload_n 0, 1) := by decide +kernel
theorem dX0_measure_25 : decode cX0_measure 25 = .ok (.getfield 15, 3) := by decide +kernel
theorem dX0_measure_28 : decode cX0_measure 28 = .ok (.iload_n 1, 1) := by decide +kernel
theorem dX0_measure_29 : decode cX0_measure 29 = .ok (.iconst 2, 1) := by decide +kernel
theorem dX0_measure_30 : decode cX0_measure 30 = .ok (.aload_n 0, 1) := by decide +kernel
theorem dX0_measure_31 : decode cX0_measure 31 = .ok (.getfield 9, 3) := by decide +kernel
theorem dX0_measure_34 : decode cX0_measure 34 = .ok (.iload_n 1, 1) := by decide +kernel
theorem dX0_measure_35 : decode cX0_measure 35 = .ok (.invokevirtual 63, 3) := by decide +kernel
theorem dX0_measure_38 : decode cX0_measure 38 = .ok (.iadd, 1) := by decide +kernel
theorem dX0_measure_39 : decode cX0_measure 39 = .ok (.aload_n 0, 1) := by decide +kernel
theorem dX0_measure_40 : decode cX0_measure 40 = .ok (.getfield 9, 3) := by decide +kernel
theorem dX0_measure_43 : decode cX0_measure 43 = .ok (.iload_n 1, 1) := by decide +kernel
theorem dX0_measure_44 : decode cX0_measure 44 = .ok (.invokevirtual 67, 3) := by decide +kernel
theorem dX0_measure_47 : decode cX0_measure 47 = .ok (.ifCond .lt 7, 3) := by decide +kernel
theorem dX0_measure_50 : decode cX0_measure 50 = .ok (.iconst 3, 1) := by decide +kernel
theorem dX0_measure_51 : decode cX0_measure 51 = .ok (.goto 4, 3) := by decide +kernel
theorem dX0_measure_54 : decode cX0_measure 54 = .ok (.iconst 0, 1) := by decide +kernel
theorem dX0_measure_55 : decode cX0_measure 55 = .ok (.iadd, 1) := by decide +kernel
theorem dX0_measure_56 : decode cX0_measure 56 = .ok (.iastore, 1) := by decide +kernel
theorem dX0_measure_57 : decode cX0_measure 57 = .ok (.goto 25, 3) := by decide +kernel
theorem dX0_measure_60 : decode cX0_measure 60 = .ok (.aload_n 0, 1) := by decide +kernel
theorem dX0_measure_61 : decode cX0_measure 61 = .ok (.getfield 15, 3) := by decide +kernel
theorem dX0_measure_64 : decode cX0_measure 64 = .ok (.iload_n 1, 1) := by decide +kernel
theorem dX0_measure_65 : decode cX0_measure 65 = .ok (.aload_n 0, 1) := by decide +kernel
theorem dX0_measure_66 : decode cX0_measure 66 = .ok (.getfield 9, 3) := by decide +kernel
theorem dX0_measure_69 : decode cX0_measure 69 = .ok (.iload_n 1, 1) := by decide +kernel
theorem dX0_measure_70 : decode cX0_measure 70 = .ok (.invokevirtual 70, 3) := by decide +kernel
theorem dX0_measure_73 : decode cX0_measure 73 = .ok (.ifCond .eq 7, 3) := by decide +kernel
theorem dX0_measure_76 : decode cX0_measure 76 = .ok (.iconst 4, 1) := by decide +kernel
theorem dX0_measure_77 : decode cX0_measure 77 = .ok (.goto 4, 3) := by decide +kernel
theorem dX0_measure_80 : decode cX0_measure 80 = .ok (.iconst 0, 1) := by decide +kernel
theorem dX0_measure_81 : decode cX0_measure 81 = .ok (.iastore, 1) := by decide +kernel
theorem dX0_measure_82 : decode cX0_measure 82 = .ok (.iinc 1 1, 3) := by decide +kernel
theorem dX0_measure_85 : decode cX0_measure 85 = .ok (.goto (-83), 3) := by decide +kernel
theorem dX0_measure_88 : decode cX0_measure 88 = .ok (.return_, 1) := by decide +kernel
theorem dX0_timeTurns_0 : decode cX0_timeTurns 0 = .ok (.iconst 0, 1) := by decide +kernel
theorem dX0_timeTurns_1 : decode cX0_timeTurns 1 = .ok (.istore_n 1, 1) := by decide +kernel
theorem dX0_timeTurns_2 : decode cX0_timeTurns 2 = .ok (.iconst 0, 1) := by decide +kernel
theorem dX0_timeTurns_3 : decode cX0_timeTurns 3 = .ok (.istore_n 2, 1) := by decide +kernel
theorem dX0_timeTurns_4 : decode cX0_timeTurns 4 = .ok (.iload_n 2, 1) := by decide +kernel
theorem dX0_timeTurns_5 : decode cX0_timeTurns 5 = .ok (.aload_n 0, 1) := by decide +kernel
theorem dX0_timeTurns_6 : decode cX0_timeTurns 6 = .ok (.getfield 9, 3) := by decide +kernel
theorem dX0_timeTurns_9 : decode cX0_timeTurns 9 = .ok (.getfield 50, 3) := by decide +kernel
theorem dX0_timeTurns_12 : decode cX0_timeTurns 12 = .ok (.if_icmp .ge 42, 3) := by decide +kernel
theorem dX0_timeTurns_15 : decode cX0_timeTurns 15 = .ok (.aload_n 0, 1) := by decide +kernel
theorem dX0_timeTurns_16 : decode cX0_timeTurns 16 = .ok (.getfield 19, 3) := by decide +kernel
theorem dX0_timeTurns_19 : decode cX0_timeTurns 19 = .ok (.iload_n 2, 1) := by decide +kernel
theorem dX0_timeTurns_20 : decode cX0_timeTurns 20 = .ok (.iload_n 1, 1) := by decide +kernel
theorem dX0_timeTurns_21 : decode cX0_timeTurns 21 = .ok (.iastore, 1) := by decide +kernel
theorem dX0_timeTurns_22 : decode cX0_timeTurns 22 = .ok (.aload_n 0, 1) := by decide +kernel
theorem dX0_timeTurns_23 : decode cX0_timeTurns 23 = .ok (.getfield 9, 3) := by decide +kernel
theorem dX0_timeTurns_26 : decode cX0_timeTurns 26 = .ok (.iload_n 2, 1) := by decide +kernel
theorem dX0_timeTurns_27 : decode cX0_timeTurns 27 = .ok (.invokevirtual 73, 3) := by decide +kernel
theorem dX0_timeTurns_30 : decode cX0_timeTurns 30 = .ok (.ifCond .eq 16, 3) := by decide +kernel
theorem dX0_timeTurns_33 : decode cX0_timeTurns 33 = .ok (.iload_n 1, 1) := by decide +kernel
theorem dX0_timeTurns_34 : decode cX0_timeTurns 34 = .ok (.aload_n 0, 1) := by decide +kernel
theorem dX0_timeTurns_35 : decode cX0_timeTurns 35 = .ok (.getfield 9, 3) := by decide +kernel
theorem dX0_timeTurns_38 : decode cX0_timeTurns 38 = .ok (.iload_n 2, 1) := by decide +kernel
theorem dX0_timeTurns_39 : decode cX0_timeTurns 39 = .ok (.invokevirtual 76, 3) := by decide +kernel
theorem dX0_timeTurns_42 : decode cX0_timeTurns 42 = .ok (.iadd, 1) := by decide +kernel
theorem dX0_timeTurns_43 : decode cX0_timeTurns 43 = .ok (.goto 4, 3) := by decide +kernel
theorem dX0_timeTurns_46 : decode cX0_timeTurns 46 = .ok (.iconst 0, 1) := by decide +kernel
theorem dX0_timeTurns_47 : decode cX0_timeTurns 47 = .ok (.istore_n 1, 1) := by decide +kernel
theorem dX0_timeTurns_48 : decode cX0_timeTurns 48 = .ok (.iinc 2 1, 3) := by decide +kernel
theorem dX0_timeTurns_51 : decode cX0_timeTurns 51 = .ok (.goto (-47), 3) := by decide +kernel
theorem dX0_timeTurns_54 : decode cX0_timeTurns 54 = .ok (.iconst 0, 1) := by decide +kernel
theorem dX0_timeTurns_55 : decode cX0_timeTurns 55 = .ok (.istore_n 2, 1) := by decide +kernel
theorem dX0_timeTurns_56 : decode cX0_timeTurns 56 = .ok (.aload_n 0, 1) := by decide +kernel
theorem dX0_timeTurns_57 : decode cX0_timeTurns 57 = .ok (.getfield 9, 3) := by decide +kernel
theorem dX0_timeTurns_60 : decode cX0_timeTurns 60 = .ok (.getfield 50, 3) := by decide +kernel
theorem dX0_timeTurns_63 : decode cX0_timeTurns 63 = .ok (.iconst 1, 1) := by decide +kernel
theorem dX0_timeTurns_64 : decode cX0_timeTurns 64 = .ok (.isub, 1) := by decide +kernel
theorem dX0_timeTurns_65 : decode cX0_timeTurns 65 = .ok (.istore_n 3, 1) := by decide +kernel
theorem dX0_timeTurns_66 : decode cX0_timeTurns 66 = .ok (.iload_n 3, 1) := by decide +kernel
theorem dX0_timeTurns_67 : decode cX0_timeTurns 67 = .ok (.ifCond .lt 45, 3) := by decide +kernel
theorem dX0_timeTurns_70 : decode cX0_timeTurns 70 = .ok (.aload_n 0, 1) := by decide +kernel
theorem dX0_timeTurns_71 : decode cX0_timeTurns 71 = .ok (.getfield 9, 3) := by decide +kernel
theorem dX0_timeTurns_74 : decode cX0_timeTurns 74 = .ok (.iload_n 3, 1) := by decide +kernel
theorem dX0_timeTurns_75 : decode cX0_timeTurns 75 = .ok (.invokevirtual 73, 3) := by decide +kernel
theorem dX0_timeTurns_78 : decode cX0_timeTurns 78 = .ok (.ifCond .eq 16, 3) := by decide +kernel
theorem dX0_timeTurns_81 : decode cX0_timeTurns 81 = .ok (.iload_n 2, 1) := by decide +kernel
theorem dX0_timeTurns_82 : decode cX0_timeTurns 82 = .ok (.aload_n 0, 1) := by decide +kernel
theorem dX0_timeTurns_83 : decode cX0_timeTurns 83 = .ok (.getfield 9, 3) := by decide +kernel
theorem dX0_timeTurns_86 : decode cX0_timeTurns 86 = .ok (.iload_n 3, 1) := by decide +kernel
theorem dX0_timeTurns_87 : decode cX0_timeTurns 87 = .ok (.invokevirtual 76, 3) := by decide +kernel
theorem dX0_timeTurns_90 : decode cX0_timeTurns 90 = .ok (.iadd, 1) := by decide +kernel
theorem dX0_timeTurns_91 : decode cX0_timeTurns 91 = .ok (.goto 4, 3) := by decide +kernel
theorem dX0_timeTurns_94 : decode cX0_timeTurns 94 = .ok (.iconst 0, 1) := by decide +kernel
theorem dX0_timeTurns_95 : decode cX0_timeTurns 95 = .ok (.istore_n 2, 1) := by decide +kernel
theorem dX0_timeTurns_96 : decode cX0_timeTurns 96 = .ok (.aload_n 0, 1) := by decide +kernel
theorem dX0_timeTurns_97 : decode cX0_timeTurns 97 = .ok (.getfield 19, 3) := by decide +kernel
theorem dX0_timeTurns_100 : decode cX0_timeTurns 100 = .ok (.iload_n 3, 1) := by decide +kernel
theorem dX0_timeTurns_101 : decode cX0_timeTurns 101 = .ok (.dup2, 1) := by decide +kernel
theorem dX0_timeTurns_102 : decode cX0_timeTurns 102 = .ok (.iaload, 1) := by decide +kernel
theorem dX0_timeTurns_103 : decode cX0_timeTurns 103 = .ok (.iload_n 2, 1) := by decide +kernel
theorem dX0_timeTurns_104 : decode cX0_timeTurns 104 = .ok (.iadd, 1) := by decide +kernel
theorem dX0_timeTurns_105 : decode cX0_timeTurns 105 = .ok (.iastore, 1) := by decide +kernel
theorem dX0_timeTurns_106 : decode cX0_timeTurns 106 = .ok (.iinc 3 (-1), 3) := by decide +kernel
theorem dX0_timeTurns_109 : decode cX0_timeTurns 109 = .ok (.goto (-43), 3) := by decide +kernel
theorem dX0_timeTurns_112 : decode cX0_timeTurns 112 = .ok (.return_, 1) := by decide +kernel
theorem dX0_widthAsFirst_0 : decode cX0_widthAsFirst 0 = .ok (.aload_n 0, 1) := by decide +kernel
theorem dX0_widthAsFirst_1 : decode cX0_widthAsFirst 1 = .ok (.getfield 9, 3) := by decide +kernel
theorem dX0_widthAsFirst_4 : decode cX0_widthAsFirst 4 = .ok (.iload_n 1, 1) := by decide +kernel
theorem dX0_widthAsFirst_5 : decode cX0_widthAsFirst 5 = .ok (.invokevirtual 73, 3) := by decide +kernel
theorem dX0_widthAsFirst_8 : decode cX0_widthAsFirst 8 = .ok (.ifCond .eq 7, 3) := by decide +kernel
theorem dX0_widthAsFirst_11 : decode cX0_widthAsFirst 11 = .ok (.iconst 4, 1) := by decide +kernel
theorem dX0_widthAsFirst_12 : decode cX0_widthAsFirst 12 = .ok (.goto 9, 3) := by decide +kernel
theorem dX0_widthAsFirst_15 : decode cX0_widthAsFirst 15 = .ok (.aload_n 0, 1) := by decide +kernel
theorem dX0_widthAsFirst_16 : decode cX0_widthAsFirst 16 = .ok (.getfield 15, 3) := by decide +kernel
theorem dX0_widthAsFirst_19 : decode cX0_widthAsFirst 19 = .ok (.iload_n 1, 1) := by decide +kernel
theorem dX0_widthAsFirst_20 : decode cX0_widthAsFirst 20 = .ok (.iaload, 1) := by decide +kernel
theorem dX0_widthAsFirst_21 : decode cX0_widthAsFirst 21 = .ok (.ireturn, 1) := by decide +kernel
theorem dX0_fill_0 : decode cX0_fill 0 = .ok (.aload_n 0, 1) := by decide +kernel
theorem dX0_fill_1 : decode cX0_fill 1 = .ok (.iload_n 1, 1) := by decide +kernel
theorem dX0_fill_2 : decode cX0_fill 2 = .ok (.invokevirtual 79, 3) := by decide +kernel
theorem dX0_fill_5 : decode cX0_fill 5 = .ok (.istore_n 2, 1) := by decide +kernel
theorem dX0_fill_6 : decode cX0_fill 6 = .ok (.iconst 1, 1) := by decide +kernel
theorem dX0_fill_7 : decode cX0_fill 7 = .ok (.istore_n 3, 1) := by decide +kernel
theorem dX0_fill_8 : decode cX0_fill 8 = .ok (.aload_n 0, 1) := by decide +kernel
theorem dX0_fill_9 : decode cX0_fill 9 = .ok (.getfield 22, 3) := by decide +kernel
theorem dX0_fill_12 : decode cX0_fill 12 = .ok (.iload_n 1, 1) := by decide +kernel
theorem dX0_fill_13 : decode cX0_fill 13 = .ok (.iconst 1, 1) := by decide +kernel
theorem dX0_fill_14 : decode cX0_fill 14 = .ok (.iastore, 1) := by decide +kernel
theorem dX0_fill_15 : decode cX0_fill 15 = .ok (.iload_n 1, 1) := by decide +kernel
theorem dX0_fill_16 : decode cX0_fill 16 = .ok (.iconst 1, 1) := by decide +kernel
theorem dX0_fill_17 : decode cX0_fill 17 = .ok (.iadd, 1) := by decide +kernel
theorem dX0_fill_18 : decode cX0_fill 18 = .ok (.istore 4, 2) := by decide +kernel
theorem dX0_fill_20 : decode cX0_fill 20 = .ok (.iload 4, 2) := by decide +kernel
theorem dX0_fill_22 : decode cX0_fill 22 = .ok (.aload_n 0, 1) := by decide +kernel
theorem dX0_fill_23 : decode cX0_fill 23 = .ok (.getfield 9, 3) := by decide +kernel
theorem dX0_fill_26 : decode cX0_fill 26 = .ok (.getfield 50, 3) := by decide +kernel
theorem dX0_fill_29 : decode cX0_fill 29 = .ok (.if_icmp .ge 67, 3) := by decide +kernel
theorem dX0_fill_32 : decode cX0_fill 32 = .ok (.iload_n 2, 1) := by decide +kernel
theorem dX0_fill_33 : decode cX0_fill 33 = .ok (.aload_n 0, 1) := by decide +kernel
theorem dX0_fill_34 : decode cX0_fill 34 = .ok (.getfield 15, 3) := by decide +kernel
theorem dX0_fill_37 : decode cX0_fill 37 = .ok (.iload 4, 2) := by decide +kernel
theorem dX0_fill_39 : decode cX0_fill 39 = .ok (.iaload, 1) := by decide +kernel
theorem dX0_fill_40 : decode cX0_fill 40 = .ok (.iadd, 1) := by decide +kernel
theorem dX0_fill_41 : decode cX0_fill 41 = .ok (.aload_n 0, 1) := by decide +kernel
theorem dX0_fill_42 : decode cX0_fill 42 = .ok (.getfield 34, 3) := by decide +kernel
theorem dX0_fill_45 : decode cX0_fill 45 = .ok (.if_icmp .gt 16, 3) := by decide +kernel
theorem dX0_fill_48 : decode cX0_fill 48 = .ok (.iload_n 2, 1) := by decide +kernel
theorem dX0_fill_49 : decode cX0_fill 49 = .ok (.aload_n 0, 1) := by decide +kernel
theorem dX0_fill_50 : decode cX0_fill 50 = .ok (.getfield 15, 3) := by decide +kernel
theorem dX0_fill_53 : decode cX0_fill 53 = .ok (.iload 4, 2) := by decide +kernel
theorem dX0_fill_55 : decode cX0_fill 55 = .ok (.iaload, 1) := by decide +kernel
theorem dX0_fill_56 : decode cX0_fill 56 = .ok (.iadd, 1) := by decide +kernel
theorem dX0_fill_57 : decode cX0_fill 57 = .ok (.istore_n 2, 1) := by decide +kernel
theorem dX0_fill_58 : decode cX0_fill 58 = .ok (.goto 13, 3) := by decide +kernel
theorem dX0_fill_61 : decode cX0_fill 61 = .ok (.aload_n 0, 1) := by decide +kernel
theorem dX0_fill_62 : decode cX0_fill 62 = .ok (.iload 4, 2) := by decide +kernel
theorem dX0_fill_64 : decode cX0_fill 64 = .ok (.invokevirtual 79, 3) := by decide +kernel
theorem dX0_fill_67 : decode cX0_fill 67 = .ok (.istore_n 2, 1) := by decide +kernel
theorem dX0_fill_68 : decode cX0_fill 68 = .ok (.iinc 3 1, 3) := by decide +kernel
theorem dX0_fill_71 : decode cX0_fill 71 = .ok (.iload_n 3, 1) := by decide +kernel
theorem dX0_fill_72 : decode cX0_fill 72 = .ok (.aload_n 0, 1) := by decide +kernel
theorem dX0_fill_73 : decode cX0_fill 73 = .ok (.getfield 38, 3) := by decide +kernel
theorem dX0_fill_76 : decode cX0_fill 76 = .ok (.if_icmp .le 6, 3) := by decide +kernel
theorem dX0_fill_79 : decode cX0_fill 79 = .ok (.iload 4, 2) := by decide +kernel
theorem dX0_fill_81 : decode cX0_fill 81 = .ok (.ireturn, 1) := by decide +kernel
theorem dX0_fill_82 : decode cX0_fill 82 = .ok (.aload_n 0, 1) := by decide +kernel
theorem dX0_fill_83 : decode cX0_fill 83 = .ok (.getfield 22, 3) := by decide +kernel
theorem dX0_fill_86 : decode cX0_fill 86 = .ok (.iload 4, 2) := by decide +kernel
theorem dX0_fill_88 : decode cX0_fill 88 = .ok (.iload_n 3, 1) := by decide +kernel
theorem dX0_fill_89 : decode cX0_fill 89 = .ok (.iastore, 1) := by decide +kernel
theorem dX0_fill_90 : decode cX0_fill 90 = .ok (.iinc 4 1, 3) := by decide +kernel
theorem dX0_fill_93 : decode cX0_fill 93 = .ok (.goto (-73), 3) := by decide +kernel
theorem dX0_fill_96 : decode cX0_fill 96 = .ok (.aload_n 0, 1) := by decide +kernel
theorem dX0_fill_97 : decode cX0_fill 97 = .ok (.getfield 9, 3) := by decide +kernel
theorem dX0_fill_100 : decode cX0_fill 100 = .ok (.getfield 50, 3) := by decide +kernel
theorem dX0_fill_103 : decode cX0_fill 103 = .ok (.ireturn, 1) := by decide +kernel
theorem dX0_chooseFrom_0 : decode cX0_chooseFrom 0 = .ok (.aload_n 0, 1) := by decide +kernel
theorem dX0_chooseFrom_1 : decode cX0_chooseFrom 1 = .ok (.iload_n 1, 1) := by decide +kernel
theorem dX0_chooseFrom_2 : decode cX0_chooseFrom 2 = .ok (.invokevirtual 82, 3) := by decide +kernel
theorem dX0_chooseFrom_5 : decode cX0_chooseFrom 5 = .ok (.istore_n 2, 1) := by decide +kernel
theorem dX0_chooseFrom_6 : decode cX0_chooseFrom 6 = .ok (.iload_n 1, 1) := by decide +kernel
theorem dX0_chooseFrom_7 : decode cX0_chooseFrom 7 = .ok (.iconst 1, 1) := by decide +kernel
theorem dX0_chooseFrom_8 : decode cX0_chooseFrom 8 = .ok (.iadd, 1) := by decide +kernel
theorem dX0_chooseFrom_9 : decode cX0_chooseFrom 9 = .ok (.istore_n 3, 1) := by decide +kernel
theorem dX0_chooseFrom_10 : decode cX0_chooseFrom 10 = .ok (.iload_n 3, 1) := by decide +kernel
theorem dX0_chooseFrom_11 : decode cX0_chooseFrom 11 = .ok (.iload_n 2, 1) := by decide +kernel
theorem dX0_chooseFrom_12 : decode cX0_chooseFrom 12 = .ok (.if_icmp .gt 116, 3) := by decide +kernel
theorem dX0_chooseFrom_15 : decode cX0_chooseFrom 15 = .ok (.aload_n 0, 1) := by decide +kernel
theorem dX0_chooseFrom_16 : decode cX0_chooseFrom 16 = .ok (.getfield 25, 3) := by decide +kernel
theorem dX0_chooseFrom_19 : decode cX0_chooseFrom 19 = .ok (.iload_n 3, 1) := by decide +kernel
theorem dX0_chooseFrom_20 : decode cX0_chooseFrom 20 = .ok (.iaload, 1) := by decide +kernel
theorem dX0_chooseFrom_21 : decode cX0_chooseFrom 21 = .ok (.aload_n 0, 1) := by decide +kernel
theorem dX0_chooseFrom_22 : decode cX0_chooseFrom 22 = .ok (.iload_n 3, 1) := by decide +kernel
theorem dX0_chooseFrom_23 : decode cX0_chooseFrom 23 = .ok (.invokevirtual 85, 3) := by decide +kernel
theorem dX0_chooseFrom_26 : decode cX0_chooseFrom 26 = .ok (.ifCond .eq 7, 3) := by decide +kernel
theorem dX0_chooseFrom_29 : decode cX0_chooseFrom 29 = .ok (.iconst 1, 1) := by decide +kernel
theorem dX0_chooseFrom_30 : decode cX0_chooseFrom 30 = .ok (.goto 4, 3) := by decide +kernel
theorem dX0_chooseFrom_33 : decode cX0_chooseFrom 33 = .ok (.iconst 0, 1) := by decide +kernel
theorem dX0_chooseFrom_34 : decode cX0_chooseFrom 34 = .ok (.iadd, 1) := by decide +kernel
theorem dX0_chooseFrom_35 : decode cX0_chooseFrom 35 = .ok (.istore 4, 2) := by decide +kernel
theorem dX0_chooseFrom_37 : decode cX0_chooseFrom 37 = .ok (.aload_n 0, 1) := by decide +kernel
theorem dX0_chooseFrom_38 : decode cX0_chooseFrom 38 = .ok (.getfield 28, 3) := by decide +kernel
theorem dX0_chooseFrom_41 : decode cX0_chooseFrom 41 = .ok (.iload_n 3, 1) := by decide +kernel
theorem dX0_chooseFrom_42 : decode cX0_chooseFrom 42 = .ok (.iaload, 1) := by decide +kernel
theorem dX0_chooseFrom_43 : decode cX0_chooseFrom 43 = .ok (.iconst 1, 1) := by decide +kernel
theorem dX0_chooseFrom_44 : decode cX0_chooseFrom 44 = .ok (.iadd, 1) := by decide +kernel
theorem dX0_chooseFrom_45 : decode cX0_chooseFrom 45 = .ok (.istore 5, 2) := by decide +kernel
theorem dX0_chooseFrom_47 : decode cX0_chooseFrom 47 = .ok (.iload_n 3, 1) := by decide +kernel
theorem dX0_chooseFrom_48 : decode cX0_chooseFrom 48 = .ok (.iload_n 1, 1) := by decide +kernel
theorem dX0_chooseFrom_49 : decode cX0_chooseFrom 49 = .ok (.iconst 1, 1) := by decide +kernel
theorem dX0_chooseFrom_50 : decode cX0_chooseFrom 50 = .ok (.iadd, 1) := by decide +kernel
theorem dX0_chooseFrom_51 : decode cX0_chooseFrom 51 = .ok (.if_icmp .eq 36, 3) := by decide +kernel
theorem dX0_chooseFrom_54 : decode cX0_chooseFrom 54 = .ok (.iload 4, 2) := by decide +kernel
theorem dX0_chooseFrom_56 : decode cX0_chooseFrom 56 = .ok (.aload_n 0, 1) := by decide +kernel
theorem dX0_chooseFrom_57 : decode cX0_chooseFrom 57 = .ok (.getfield 25, 3) := by decide +kernel
theorem dX0_chooseFrom_60 : decode cX0_chooseFrom 60 = .ok (.iload_n 1, 1) := by decide +kernel
theorem dX0_chooseFrom_61 : decode cX0_chooseFrom 61 = .ok (.iaload, 1) := by decide +kernel
theorem dX0_chooseFrom_62 : decode cX0_chooseFrom 62 = .ok (.if_icmp .lt 25, 3) := by decide +kernel
theorem dX0_chooseFrom_65 : decode cX0_chooseFrom 65 = .ok (.iload 4, 2) := by decide +kernel
theorem dX0_chooseFrom_67 : decode cX0_chooseFrom 67 = .ok (.aload_n 0, 1) := by decide +kernel
theorem dX0_chooseFrom_68 : decode cX0_chooseFrom 68 = .ok (.getfield 25, 3) := by decide +kernel
theorem dX0_chooseFrom_71 : decode cX0_chooseFrom 71 = .ok (.iload_n 1, 1) := by decide +kernel
theorem dX0_chooseFrom_72 : decode cX0_chooseFrom 72 = .ok (.iaload, 1) := by decide +kernel
theorem dX0_chooseFrom_73 : decode cX0_chooseFrom 73 = .ok (.if_icmp .ne 18, 3) := by decide +kernel
theorem dX0_chooseFrom_76 : decode cX0_chooseFrom 76 = .ok (.iload 5, 2) := by decide +kernel
theorem dX0_chooseFrom_78 : decode cX0_chooseFrom 78 = .ok (.aload_n 0, 1) := by decide +kernel
theorem dX0_chooseFrom_79 : decode cX0_chooseFrom 79 = .ok (.getfield 28, 3) := by decide +kernel
theorem dX0_chooseFrom_82 : decode cX0_chooseFrom 82 = .ok (.iload_n 1, 1) := by decide +kernel
theorem dX0_chooseFrom_83 : decode cX0_chooseFrom 83 = .ok (.iaload, 1) := by decide +kernel
theorem dX0_chooseFrom_84 : decode cX0_chooseFrom 84 = .ok (.if_icmp .ge 7, 3) := by decide +kernel
theorem dX0_chooseFrom_87 : decode cX0_chooseFrom 87 = .ok (.iconst 1, 1) := by decide +kernel
theorem dX0_chooseFrom_88 : decode cX0_chooseFrom 88 = .ok (.goto 4, 3) := by decide +kernel
theorem dX0_chooseFrom_91 : decode cX0_chooseFrom 91 = .ok (.iconst 0, 1) := by decide +kernel
theorem dX0_chooseFrom_92 : decode cX0_chooseFrom 92 = .ok (.istore 6, 2) := by decide +kernel
theorem dX0_chooseFrom_94 : decode cX0_chooseFrom 94 = .ok (.iload 6, 2) := by decide +kernel
theorem dX0_chooseFrom_96 : decode cX0_chooseFrom 96 = .ok (.ifCond .eq 26, 3) := by decide +kernel
theorem dX0_chooseFrom_99 : decode cX0_chooseFrom 99 = .ok (.aload_n 0, 1) := by decide +kernel
theorem dX0_chooseFrom_100 : decode cX0_chooseFrom 100 = .ok (.getfield 25, 3) := by decide +kernel
theorem dX0_chooseFrom_103 : decode cX0_chooseFrom 103 = .ok (.iload_n 1, 1) := by decide +kernel
theorem dX0_chooseFrom_104 : decode cX0_chooseFrom 104 = .ok (.iload 4, 2) := by decide +kernel
theorem dX0_chooseFrom_106 : decode cX0_chooseFrom 106 = .ok (.iastore, 1) := by decide +kernel
theorem dX0_chooseFrom_107 : decode cX0_chooseFrom 107 = .ok (.aload_n 0, 1) := by decide +kernel
theorem dX0_chooseFrom_108 : decode cX0_chooseFrom 108 = .ok (.getfield 28, 3) := by decide +kernel
theorem dX0_chooseFrom_111 : decode cX0_chooseFrom 111 = .ok (.iload_n 1, 1) := by decide +kernel
theorem dX0_chooseFrom_112 : decode cX0_chooseFrom 112 = .ok (.iload 5, 2) := by decide +kernel
theorem dX0_chooseFrom_114 : decode cX0_chooseFrom 114 = .ok (.iastore, 1) := by decide +kernel
theorem dX0_chooseFrom_115 : decode cX0_chooseFrom 115 = .ok (.aload_n 0, 1) := by decide +kernel
theorem dX0_chooseFrom_116 : decode cX0_chooseFrom 116 = .ok (.getfield 31, 3) := by decide +kernel
theorem dX0_chooseFrom_119 : decode cX0_chooseFrom 119 = .ok (.iload_n 1, 1) := by decide +kernel
theorem dX0_chooseFrom_120 : decode cX0_chooseFrom 120 = .ok (.iload_n 3, 1) := by decide +kernel
theorem dX0_chooseFrom_121 : decode cX0_chooseFrom 121 = .ok (.iastore, 1) := by decide +kernel
theorem dX0_chooseFrom_122 : decode cX0_chooseFrom 122 = .ok (.iinc 3 1, 3) := by decide +kernel
theorem dX0_chooseFrom_125 : decode cX0_chooseFrom 125 = .ok (.goto (-115), 3) := by decide +kernel
theorem dX0_chooseFrom_128 : decode cX0_chooseFrom 128 = .ok (.return_, 1) := by decide +kernel
theorem dX0_isBadTurn_0 : decode cX0_isBadTurn 0 = .ok (.iload_n 1, 1) := by decide +kernel
theorem dX0_isBadTurn_1 : decode cX0_isBadTurn 1 = .ok (.aload_n 0, 1) := by decide +kernel
theorem dX0_isBadTurn_2 : decode cX0_isBadTurn 2 = .ok (.getfield 9, 3) := by decide +kernel
theorem dX0_isBadTurn_5 : decode cX0_isBadTurn 5 = .ok (.getfield 50, 3) := by decide +kernel
theorem dX0_isBadTurn_8 : decode cX0_isBadTurn 8 = .ok (.if_icmp .ge 20, 3) := by decide +kernel
theorem dX0_isBadTurn_11 : decode cX0_isBadTurn 11 = .ok (.aload_n 0, 1) := by decide +kernel
theorem dX0_isBadTurn_12 : decode cX0_isBadTurn 12 = .ok (.getfield 19, 3) := by decide +kernel
theorem dX0_isBadTurn_15 : decode cX0_isBadTurn 15 = .ok (.iload_n 1, 1) := by decide +kernel
theorem dX0_isBadTurn_16 : decode cX0_isBadTurn 16 = .ok (.iaload, 1) := by decide +kernel
theorem dX0_isBadTurn_17 : decode cX0_isBadTurn 17 = .ok (.aload_n 0, 1) := by decide +kernel
theorem dX0_isBadTurn_18 : decode cX0_isBadTurn 18 = .ok (.getfield 41, 3) := by decide +kernel
theorem dX0_isBadTurn_21 : decode cX0_isBadTurn 21 = .ok (.if_icmp .ge 7, 3) := by decide +kernel
theorem dX0_isBadTurn_24 : decode cX0_isBadTurn 24 = .ok (.iconst 1, 1) := by decide +kernel
theorem dX0_isBadTurn_25 : decode cX0_isBadTurn 25 = .ok (.goto 4, 3) := by decide +kernel
theorem dX0_isBadTurn_28 : decode cX0_isBadTurn 28 = .ok (.iconst 0, 1) := by decide +kernel
theorem dX0_isBadTurn_29 : decode cX0_isBadTurn 29 = .ok (.ireturn, 1) := by decide +kernel
theorem dX0_pageCount_0 : decode cX0_pageCount 0 = .ok (.aload_n 0, 1) := by decide +kernel
theorem dX0_pageCount_1 : decode cX0_pageCount 1 = .ok (.getfield 28, 3) := by decide +kernel
theorem dX0_pageCount_4 : decode cX0_pageCount 4 = .ok (.iconst 0, 1) := by decide +kernel
theorem dX0_pageCount_5 : decode cX0_pageCount 5 = .ok (.iaload, 1) := by decide +kernel
theorem dX0_pageCount_6 : decode cX0_pageCount 6 = .ok (.ireturn, 1) := by decide +kernel
theorem dX0_badTurns_0 : decode cX0_badTurns 0 = .ok (.aload_n 0, 1) := by decide +kernel
theorem dX0_badTurns_1 : decode cX0_badTurns 1 = .ok (.getfield 25, 3) := by decide +kernel
theorem dX0_badTurns_4 : decode cX0_badTurns 4 = .ok (.iconst 0, 1) := by decide +kernel
theorem dX0_badTurns_5 : decode cX0_badTurns 5 = .ok (.iaload, 1) := by decide +kernel
theorem dX0_badTurns_6 : decode cX0_badTurns 6 = .ok (.ireturn, 1) := by decide +kernel
theorem dX0_placeOfPage_0 : decode cX0_placeOfPage 0 = .ok (.iconst 0, 1) := by decide +kernel
theorem dX0_placeOfPage_1 : decode cX0_placeOfPage 1 = .ok (.istore_n 2, 1) := by decide +kernel
theorem dX0_placeOfPage_2 : decode cX0_placeOfPage 2 = .ok (.iconst 0, 1) := by decide +kernel
theorem dX0_placeOfPage_3 : decode cX0_placeOfPage 3 = .ok (.istore_n 3, 1) := by decide +kernel
theorem dX0_placeOfPage_4 : decode cX0_placeOfPage 4 = .ok (.iload_n 3, 1) := by decide +kernel
theorem dX0_placeOfPage_5 : decode cX0_placeOfPage 5 = .ok (.iload_n 1, 1) := by decide +kernel
theorem dX0_placeOfPage_6 : decode cX0_placeOfPage 6 = .ok (.if_icmp .ge 27, 3) := by decide +kernel
theorem dX0_placeOfPage_9 : decode cX0_placeOfPage 9 = .ok (.iload_n 2, 1) := by decide +kernel
theorem dX0_placeOfPage_10 : decode cX0_placeOfPage 10 = .ok (.aload_n 0, 1) := by decide +kernel
theorem dX0_placeOfPage_11 : decode cX0_placeOfPage 11 = .ok (.getfield 9, 3) := by decide +kernel
theorem dX0_placeOfPage_14 : decode cX0_placeOfPage 14 = .ok (.getfield 50, 3) := by decide +kernel
theorem dX0_placeOfPage_17 : decode cX0_placeOfPage 17 = .ok (.if_icmp .ge 16, 3) := by decide +kernel
theorem dX0_placeOfPage_20 : decode cX0_placeOfPage 20 = .ok (.aload_n 0, 1) := by decide +kernel
theorem dX0_placeOfPage_21 : decode cX0_placeOfPage 21 = .ok (.getfield 31, 3) := by decide +kernel
theorem dX0_placeOfPage_24 : decode cX0_placeOfPage 24 = .ok (.iload_n 2, 1) := by decide +kernel
theorem dX0_placeOfPage_25 : decode cX0_placeOfPage 25 = .ok (.iaload, 1) := by decide +kernel
theorem dX0_placeOfPage_26 : decode cX0_placeOfPage 26 = .ok (.istore_n 2, 1) := by decide +kernel
theorem dX0_placeOfPage_27 : decode cX0_placeOfPage 27 = .ok (.iinc 3 1, 3) := by decide +kernel
theorem dX0_placeOfPage_30 : decode cX0_placeOfPage 30 = .ok (.goto (-26), 3) := by decide +kernel
theorem dX0_placeOfPage_33 : decode cX0_placeOfPage 33 = .ok (.iload_n 2, 1) := by decide +kernel
theorem dX0_placeOfPage_34 : decode cX0_placeOfPage 34 = .ok (.ireturn, 1) := by decide +kernel
theorem dX0_firstBar_0 : decode cX0_firstBar 0 = .ok (.aload_n 0, 1) := by decide +kernel
theorem dX0_firstBar_1 : decode cX0_firstBar 1 = .ok (.getfield 9, 3) := by decide +kernel
theorem dX0_firstBar_4 : decode cX0_firstBar 4 = .ok (.aload_n 0, 1) := by decide +kernel
theorem dX0_firstBar_5 : decode cX0_firstBar 5 = .ok (.iload_n 1, 1) := by decide +kernel
theorem dX0_firstBar_6 : decode cX0_firstBar 6 = .ok (.invokevirtual 88, 3) := by decide +kernel
theorem dX0_firstBar_9 : decode cX0_firstBar 9 = .ok (.invokevirtual 91, 3) := by decide +kernel
theorem dX0_firstBar_12 : decode cX0_firstBar 12 = .ok (.ireturn, 1) := by decide +kernel
theorem dX0_freeBehind_0 : decode cX0_freeBehind 0 = .ok (.aload_n 0, 1) := by decide +kernel
theorem dX0_freeBehind_1 : decode cX0_freeBehind 1 = .ok (.iload_n 1, 1) := by decide +kernel
theorem dX0_freeBehind_2 : decode cX0_freeBehind 2 = .ok (.invokevirtual 88, 3) := by decide +kernel
theorem dX0_freeBehind_5 : decode cX0_freeBehind 5 = .ok (.istore_n 2, 1) := by decide +kernel
theorem dX0_freeBehind_6 : decode cX0_freeBehind 6 = .ok (.iload_n 2, 1) := by decide +kernel
theorem dX0_freeBehind_7 : decode cX0_freeBehind 7 = .ok (.aload_n 0, 1) := by decide +kernel
theorem dX0_freeBehind_8 : decode cX0_freeBehind 8 = .ok (.getfield 9, 3) := by decide +kernel
theorem dX0_freeBehind_11 : decode cX0_freeBehind 11 = .ok (.getfield 50, 3) := by decide +kernel
theorem dX0_freeBehind_14 : decode cX0_freeBehind 14 = .ok (.if_icmp .ge 19, 3) := by decide +kernel
theorem dX0_freeBehind_17 : decode cX0_freeBehind 17 = .ok (.aload_n 0, 1) := by decide +kernel
theorem dX0_freeBehind_18 : decode cX0_freeBehind 18 = .ok (.getfield 31, 3) := by decide +kernel
theorem dX0_freeBehind_21 : decode cX0_freeBehind 21 = .ok (.iload_n 2, 1) := by decide +kernel
theorem dX0_freeBehind_22 : decode cX0_freeBehind 22 = .ok (.iaload, 1) := by decide +kernel
theorem dX0_freeBehind_23 : decode cX0_freeBehind 23 = .ok (.aload_n 0, 1) := by decide +kernel
theorem dX0_freeBehind_24 : decode cX0_freeBehind 24 = .ok (.getfield 9, 3) := by decide +kernel
theorem dX0_freeBehind_27 : decode cX0_freeBehind 27 = .ok (.getfield 50, 3) := by decide +kernel
theorem dX0_freeBehind_30 : decode cX0_freeBehind 30 = .ok (.if_icmp .lt 6, 3) := by decide +kernel
theorem dX0_freeBehind_33 : decode cX0_freeBehind 33 = .ok (.ldc 94, 2) := by decide +kernel
theorem dX0_freeBehind_35 : decode cX0_freeBehind 35 = .ok (.ireturn, 1) := by decide +kernel
theorem dX0_freeBehind_36 : decode cX0_freeBehind 36 = .ok (.aload_n 0, 1) := by decide +kernel
theorem dX0_freeBehind_37 : decode cX0_freeBehind 37 = .ok (.getfield 19, 3) := by decide +kernel
theorem dX0_freeBehind_40 : decode cX0_freeBehind 40 = .ok (.aload_n 0, 1) := by decide +kernel
theorem dX0_freeBehind_41 : decode cX0_freeBehind 41 = .ok (.getfield 31, 3) := by decide +kernel
theorem dX0_freeBehind_44 : decode cX0_freeBehind 44 = .ok (.iload_n 2, 1) := by decide +kernel
theorem dX0_freeBehind_45 : decode cX0_freeBehind 45 = .ok (.iaload, 1) := by decide +kernel
theorem dX0_freeBehind_46 : decode cX0_freeBehind 46 = .ok (.iaload, 1) := by decide +kernel
theorem dX0_freeBehind_47 : decode cX0_freeBehind 47 = .ok (.ireturn, 1) := by decide +kernel
theorem dX0_systemsOf_0 : decode cX0_systemsOf 0 = .ok (.aload_n 0, 1) := by decide +kernel
theorem dX0_systemsOf_1 : decode cX0_systemsOf 1 = .ok (.iload_n 1, 1) := by decide +kernel
theorem dX0_systemsOf_2 : decode cX0_systemsOf 2 = .ok (.invokevirtual 88, 3) := by decide +kernel
theorem dX0_systemsOf_5 : decode cX0_systemsOf 5 = .ok (.istore_n 2, 1) := by decide +kernel
theorem dX0_systemsOf_6 : decode cX0_systemsOf 6 = .ok (.iload_n 2, 1) := by decide +kernel
theorem dX0_systemsOf_7 : decode cX0_systemsOf 7 = .ok (.aload_n 0, 1) := by decide +kernel
theorem dX0_systemsOf_8 : decode cX0_systemsOf 8 = .ok (.getfield 9, 3) := by decide +kernel
theorem dX0_systemsOf_11 : decode cX0_systemsOf 11 = .ok (.getfield 50, 3) := by decide +kernel
theorem dX0_systemsOf_14 : decode cX0_systemsOf 14 = .ok (.if_icmp .lt 6, 3) := by decide +kernel
theorem dX0_systemsOf_17 : decode cX0_systemsOf 17 = .ok (.ldc 94, 2) := by decide +kernel
theorem dX0_systemsOf_19 : decode cX0_systemsOf 19 = .ok (.ireturn, 1) := by decide +kernel
theorem dX0_systemsOf_20 : decode cX0_systemsOf 20 = .ok (.aload_n 0, 1) := by decide +kernel
theorem dX0_systemsOf_21 : decode cX0_systemsOf 21 = .ok (.iload_n 2, 1) := by decide +kernel
theorem dX0_systemsOf_22 : decode cX0_systemsOf 22 = .ok (.invokevirtual 82, 3) := by decide +kernel
theorem dX0_systemsOf_25 : decode cX0_systemsOf 25 = .ok (.pop, 1) := by decide +kernel
theorem dX0_systemsOf_26 : decode cX0_systemsOf 26 = .ok (.aload_n 0, 1) := by decide +kernel
theorem dX0_systemsOf_27 : decode cX0_systemsOf 27 = .ok (.getfield 22, 3) := by decide +kernel
theorem dX0_systemsOf_30 : decode cX0_systemsOf 30 = .ok (.aload_n 0, 1) := by decide +kernel
theorem dX0_systemsOf_31 : decode cX0_systemsOf 31 = .ok (.getfield 31, 3) := by decide +kernel
theorem dX0_systemsOf_34 : decode cX0_systemsOf 34 = .ok (.iload_n 2, 1) := by decide +kernel
theorem dX0_systemsOf_35 : decode cX0_systemsOf 35 = .ok (.iaload, 1) := by decide +kernel
theorem dX0_systemsOf_36 : decode cX0_systemsOf 36 = .ok (.iconst 1, 1) := by decide +kernel
theorem dX0_systemsOf_37 : decode cX0_systemsOf 37 = .ok (.isub, 1) := by decide +kernel
theorem dX0_systemsOf_38 : decode cX0_systemsOf 38 = .ok (.iaload, 1) := by decide +kernel
theorem dX0_systemsOf_39 : decode cX0_systemsOf 39 = .ok (.ireturn, 1) := by decide +kernel
theorem dX1_init_0 : decode cX1_init 0 = .ok (.aload_n 0, 1) := by decide +kernel
theorem dX1_init_1 : decode cX1_init 1 = .ok (.invokespecial 3, 3) := by decide +kernel
theorem dX1_init_4 : decode cX1_init 4 = .ok (.aload_n 0, 1) := by decide +kernel
theorem dX1_init_5 : decode cX1_init 5 = .ok (.aload_n 1, 1) := by decide +kernel
theorem dX1_init_6 : decode cX1_init 6 = .ok (.putfield 9, 3) := by decide +kernel
theorem dX1_init_9 : decode cX1_init 9 = .ok (.aload_n 0, 1) := by decide +kernel
theorem dX1_init_10 : decode cX1_init 10 = .ok (.bipush 40, 2) := by decide +kernel
theorem dX1_init_12 : decode cX1_init 12 = .ok (.newarray .int, 2) := by decide +kernel
theorem dX1_init_14 : decode cX1_init 14 = .ok (.putfield 15, 3) := by decide +kernel
theorem dX1_init_17 : decode cX1_init 17 = .ok (.aload_n 0, 1) := by decide +kernel
theorem dX1_init_18 : decode cX1_init 18 = .ok (.bipush 40, 2) := by decide +kernel
theorem dX1_init_20 : decode cX1_init 20 = .ok (.newarray .int, 2) := by decide +kernel
theorem dX1_init_22 : decode cX1_init 22 = .ok (.putfield 19, 3) := by decide +kernel
theorem dX1_init_25 : decode cX1_init 25 = .ok (.aload_n 0, 1) := by decide +kernel
theorem dX1_init_26 : decode cX1_init 26 = .ok (.iconst 0, 1) := by decide +kernel
theorem dX1_init_27 : decode cX1_init 27 = .ok (.putfield 22, 3) := by decide +kernel
theorem dX1_init_30 : decode cX1_init 30 = .ok (.aload_n 0, 1) := by decide +kernel
theorem dX1_init_31 : decode cX1_init 31 = .ok (.iconst 0, 1) := by decide +kernel
theorem dX1_init_32 : decode cX1_init 32 = .ok (.putfield 26, 3) := by decide +kernel
theorem dX1_init_35 : decode cX1_init 35 = .ok (.aload_n 0, 1) := by decide +kernel
theorem dX1_init_36 : decode cX1_init 36 = .ok (.iconst 1, 1) := by decide +kernel
theorem dX1_init_37 : decode cX1_init 37 = .ok (.putfield 29, 3) := by decide +kernel
theorem dX1_init_40 : decode cX1_init 40 = .ok (.return_, 1) := by decide +kernel
theorem dX1_draw_0 : decode cX1_draw 0 = .ok (.aload_n 0, 1) := by decide +kernel
theorem dX1_draw_1 : decode cX1_draw 1 = .ok (.iload_n 1, 1) := by decide +kernel
theorem dX1_draw_2 : decode cX1_draw 2 = .ok (.putfield 26, 3) := by decide +kernel
theorem dX1_draw_5 : decode cX1_draw 5 = .ok (.aload_n 0, 1) := by decide +kernel
theorem dX1_draw_6 : decode cX1_draw 6 = .ok (.iload_n 2, 1) := by decide +kernel
theorem dX1_draw_7 : decode cX1_draw 7 = .ok (.putfield 29, 3) := by decide +kernel
theorem dX1_draw_10 : decode cX1_draw 10 = .ok (.aload_n 0, 1) := by decide +kernel
theorem dX1_draw_11 : decode cX1_draw 11 = .ok (.iconst 0, 1) := by decide +kernel
theorem dX1_draw_12 : decode cX1_draw 12 = .ok (.putfield 22, 3) := by decide +kernel
theorem dX1_draw_15 : decode cX1_draw 15 = .ok (.aload_n 0, 1) := by decide +kernel
theorem dX1_draw_16 : decode cX1_draw 16 = .ok (.getfield 9, 3) := by decide +kernel
theorem dX1_draw_19 : decode cX1_draw 19 = .ok (.iload_n 1, 1) := by decide +kernel
theorem dX1_draw_20 : decode cX1_draw 20 = .ok (.invokevirtual 32, 3) := by decide +kernel
theorem dX1_draw_23 : decode cX1_draw 23 = .ok (.astore_n 3, 1) := by decide +kernel
theorem dX1_draw_24 : decode cX1_draw 24 = .ok (.aload_n 3, 1) := by decide +kernel
theorem dX1_draw_25 : decode cX1_draw 25 = .ok (.ifnonnull 4, 3) := by decide +kernel
theorem dX1_draw_28 : decode cX1_draw 28 = .ok (.return_, 1) := by decide +kernel
theorem dX1_draw_29 : decode cX1_draw 29 = .ok (.iconst 0, 1) := by decide +kernel
theorem dX1_draw_30 : decode cX1_draw 30 = .ok (.istore 4, 2) := by decide +kernel
theorem dX1_draw_32 : decode cX1_draw 32 = .ok (.iload 4, 2) := by decide +kernel
theorem dX1_draw_34 : decode cX1_draw 34 = .ok (.bipush 40, 2) := by decide +kernel
theorem dX1_draw_36 : decode cX1_draw 36 = .ok (.if_icmp .ge 58, 3) := by decide +kernel
theorem dX1_draw_39 : decode cX1_draw 39 = .ok (.aload_n 0, 1) := by decide +kernel
theorem dX1_draw_40 : decode cX1_draw 40 = .ok (.getfield 9, 3) := by decide +kernel
theorem dX1_draw_43 : decode cX1_draw 43 = .ok (.iload 4, 2) := by decide +kernel
theorem dX1_draw_45 : decode cX1_draw 45 = .ok (.invokevirtual 38, 3) := by decide +kernel
theorem dX1_draw_48 : decode cX1_draw 48 = .ok (.ifCond .eq 40, 3) := by decide +kernel
theorem dX1_draw_51 : decode cX1_draw 51 = .ok (.aload_n 0, 1) := by decide +kernel
theorem dX1_draw_52 : decode cX1_draw 52 = .ok (.getfield 15, 3) := by decide +kernel
theorem dX1_draw_55 : decode cX1_draw 55 = .ok (.aload_n 0, 1) := by decide +kernel
theorem dX1_draw_56 : decode cX1_draw 56 = .ok (.getfield 22, 3) := by decide +kernel
theorem dX1_draw_59 : decode cX1_draw 59 = .ok (.iload 4, 2) := by decide +kernel
theorem dX1_draw_61 : decode cX1_draw 61 = .ok (.iastore, 1) := by decide +kernel
theorem dX1_draw_62 : decode cX1_draw 62 = .ok (.aload_n 0, 1) := by decide +kernel
theorem dX1_draw_63 : decode cX1_draw 63 = .ok (.getfield 19, 3) := by decide +kernel
theorem dX1_draw_66 : decode cX1_draw 66 = .ok (.aload_n 0, 1) := by decide +kernel
theorem dX1_draw_67 : decode cX1_draw 67 = .ok (.getfield 22, 3) := by decide +kernel
theorem dX1_draw_70 : decode cX1_draw 70 = .ok (.aload_n 3, 1) := by decide +kernel
theorem dX1_draw_71 : decode cX1_draw 71 = .ok (.getfield 42, 3) := by decide +kernel
theorem dX1_draw_74 : decode cX1_draw 74 = .ok (.iload 4, 2) := by decide +kernel
theorem dX1_draw_76 : decode cX1_draw 76 = .ok (.iaload, 1) := by decide +kernel
theorem dX1_draw_77 : decode cX1_draw 77 = .ok (.iastore, 1) := by decide +kernel
theorem dX1_draw_78 : decode cX1_draw 78 = .ok (.aload_n 0, 1) := by decide +kernel
theorem dX1_draw_79 : decode cX1_draw 79 = .ok (.dup, 1) := by decide +kernel
theorem dX1_draw_80 : decode cX1_draw 80 = .ok (.getfield 22, 3) := by decide +kernel
theorem dX1_draw_83 : decode cX1_draw 83 = .ok (.iconst 1, 1) := by decide +kernel
theorem dX1_draw_84 : decode cX1_draw 84 = .ok (.iadd, 1) := by decide +kernel
theorem dX1_draw_85 : decode cX1_draw 85 = .ok (.putfield 22, 3) := by decide +kernel
theorem dX1_draw_88 : decode cX1_draw 88 = .ok (.iinc 4 1, 3) := by decide +kernel
theorem dX1_draw_91 : decode cX1_draw 91 = .ok (.goto (-59), 3) := by decide +kernel
theorem dX1_draw_94 : decode cX1_draw 94 = .ok (.return_, 1) := by decide +kernel
theorem dX1_has_0 : decode cX1_has 0 = .ok (.iload_n 1, 1) := by decide +kernel
theorem dX1_has_1 : decode cX1_has 1 = .ok (.ifCond .lt 15, 3) := by decide +kernel
theorem dX1_has_4 : decode cX1_has 4 = .ok (.iload_n 1, 1) := by decide +kernel
theorem dX1_has_5 : decode cX1_has 5 = .ok (.aload_n 0, 1) := by decide +kernel
theorem dX1_has_6 : decode cX1_has 6 = .ok (.getfield 22, 3) := by decide +kernel
theorem dX1_has_9 : decode cX1_has 9 = .ok (.if_icmp .ge 7, 3) := by decide +kernel
theorem dX1_has_12 : decode cX1_has 12 = .ok (.iconst 1, 1) := by decide +kernel
theorem dX1_has_13 : decode cX1_has 13 = .ok (.goto 4, 3) := by decide +kernel
theorem dX1_has_16 : decode cX1_has 16 = .ok (.iconst 0, 1) := by decide +kernel
theorem dX1_has_17 : decode cX1_has 17 = .ok (.ireturn, 1) := by decide +kernel
theorem dX1_rests_0 : decode cX1_rests 0 = .ok (.iload_n 1, 1) := by decide +kernel
theorem dX1_rests_1 : decode cX1_rests 1 = .ok (.ifCond .lt 24, 3) := by decide +kernel
theorem dX1_rests_4 : decode cX1_rests 4 = .ok (.iload_n 1, 1) := by decide +kernel
theorem dX1_rests_5 : decode cX1_rests 5 = .ok (.aload_n 0, 1) := by decide +kernel
theorem dX1_rests_6 : decode cX1_rests 6 = .ok (.getfield 22, 3) := by decide +kernel
theorem dX1_rests_9 : decode cX1_rests 9 = .ok (.if_icmp .ge 16, 3) := by decide +kernel
theorem dX1_rests_12 : decode cX1_rests 12 = .ok (.aload_n 0, 1) := by decide +kernel
theorem dX1_rests_13 : decode cX1_rests 13 = .ok (.getfield 19, 3) := by decide +kernel
theorem dX1_rests_16 : decode cX1_rests 16 = .ok (.iload_n 1, 1) := by decide +kernel
theorem dX1_rests_17 : decode cX1_rests 17 = .ok (.iaload, 1) := by decide +kernel
theorem dX1_rests_18 : decode cX1_rests 18 = .ok (.ifCond .ne 7, 3) := by decide +kernel
theorem dX1_rests_21 : decode cX1_rests 21 = .ok (.iconst 1, 1) := by decide +kernel
theorem dX1_rests_22 : decode cX1_rests 22 = .ok (.goto 4, 3) := by decide +kernel
theorem dX1_rests_25 : decode cX1_rests 25 = .ok (.iconst 0, 1) := by decide +kernel
theorem dX1_rests_26 : decode cX1_rests 26 = .ok (.ireturn, 1) := by decide +kernel
theorem dX1_plays_0 : decode cX1_plays 0 = .ok (.iload_n 1, 1) := by decide +kernel
theorem dX1_plays_1 : decode cX1_plays 1 = .ok (.ifCond .lt 24, 3) := by decide +kernel
theorem dX1_plays_4 : decode cX1_plays 4 = .ok (.iload_n 1, 1) := by decide +kernel
theorem dX1_plays_5 : decode cX1_plays 5 = .ok (.aload_n 0, 1) := by decide +kernel
theorem dX1_plays_6 : decode cX1_plays 6 = .ok (.getfield 22, 3) := by decide +kernel
theorem dX1_plays_9 : decode cX1_plays 9 = .ok (.if_icmp .ge 16, 3) := by decide +kernel
theorem dX1_plays_12 : decode cX1_plays 12 = .ok (.aload_n 0, 1) := by decide +kernel
theorem dX1_plays_13 : decode cX1_plays 13 = .ok (.getfield 19, 3) := by decide +kernel
theorem dX1_plays_16 : decode cX1_plays 16 = .ok (.iload_n 1, 1) := by decide +kernel
theorem dX1_plays_17 : decode cX1_plays 17 = .ok (.iaload, 1) := by decide +kernel
theorem dX1_plays_18 : decode cX1_plays 18 = .ok (.ifCond .le 7, 3) := by decide +kernel
theorem dX1_plays_21 : decode cX1_plays 21 = .ok (.iconst 1, 1) := by decide +kernel
theorem dX1_plays_22 : decode cX1_plays 22 = .ok (.goto 4, 3) := by decide +kernel
theorem dX1_plays_25 : decode cX1_plays 25 = .ok (.iconst 0, 1) := by decide +kernel
theorem dX1_plays_26 : decode cX1_plays 26 = .ok (.ireturn, 1) := by decide +kernel
theorem dX1_bears_0 : decode cX1_bears 0 = .ok (.aload_n 0, 1) := by decide +kernel
theorem dX1_bears_1 : decode cX1_bears 1 = .ok (.iload_n 1, 1) := by decide +kernel
theorem dX1_bears_2 : decode cX1_bears 2 = .ok (.invokevirtual 45, 3) := by decide +kernel
theorem dX1_bears_5 : decode cX1_bears 5 = .ok (.ifCond .eq 26, 3) := by decide +kernel
theorem dX1_bears_8 : decode cX1_bears 8 = .ok (.aload_n 0, 1) := by decide +kernel
theorem dX1_bears_9 : decode cX1_bears 9 = .ok (.getfield 9, 3) := by decide +kernel
theorem dX1_bears_12 : decode cX1_bears 12 = .ok (.getfield 48, 3) := by decide +kernel
theorem dX1_bears_15 : decode cX1_bears 15 = .ok (.aload_n 0, 1) := by decide +kernel
theorem dX1_bears_16 : decode cX1_bears 16 = .ok (.getfield 15, 3) := by decide +kernel
theorem dX1_bears_19 : decode cX1_bears 19 = .ok (.iload_n 1, 1) := by decide +kernel
theorem dX1_bears_20 : decode cX1_bears 20 = .ok (.iaload, 1) := by decide +kernel
theorem dX1_bears_21 : decode cX1_bears 21 = .ok (.iaload, 1) := by decide +kernel
theorem dX1_bears_22 : decode cX1_bears 22 = .ok (.iload_n 2, 1) := by decide +kernel
theorem dX1_bears_23 : decode cX1_bears 23 = .ok (.iand, 1) := by decide +kernel
theorem dX1_bears_24 : decode cX1_bears 24 = .ok (.ifCond .eq 7, 3) := by decide +kernel
theorem dX1_bears_27 : decode cX1_bears 27 = .ok (.iconst 1, 1) := by decide +kernel
theorem dX1_bears_28 : decode cX1_bears 28 = .ok (.goto 4, 3) := by decide +kernel
theorem dX1_bears_31 : decode cX1_bears 31 = .ok (.iconst 0, 1) := by decide +kernel
theorem dX1_bears_32 : decode cX1_bears 32 = .ok (.ireturn, 1) := by decide +kernel
theorem dX1_opensRests_0 : decode cX1_opensRests 0 = .ok (.aload_n 0, 1) := by decide +kernel
theorem dX1_opensRests_1 : decode cX1_opensRests 1 = .ok (.iload_n 1, 1) := by decide +kernel
theorem dX1_opensRests_2 : decode cX1_opensRests 2 = .ok (.invokevirtual 51, 3) := by decide +kernel
theorem dX1_opensRests_5 : decode cX1_opensRests 5 = .ok (.ifCond .ne 5, 3) := by decide +kernel
theorem dX1_opensRests_8 : decode cX1_opensRests 8 = .ok (.iconst 0, 1) := by decide +kernel
theorem dX1_opensRests_9 : decode cX1_opensRests 9 = .ok (.ireturn, 1) := by decide +kernel
theorem dX1_opensRests_10 : decode cX1_opensRests 10 = .ok (.aload_n 0, 1) := by decide +kernel
theorem dX1_opensRests_11 : decode cX1_opensRests 11 = .ok (.iload_n 1, 1) := by decide +kernel
theorem dX1_opensRests_12 : decode cX1_opensRests 12 = .ok (.iconst 1, 1) := by decide +kernel
theorem dX1_opensRests_13 : decode cX1_opensRests 13 = .ok (.isub, 1) := by decide +kernel
theorem dX1_opensRests_14 : decode cX1_opensRests 14 = .ok (.invokevirtual 51, 3) := by decide +kernel
theorem dX1_opensRests_17 : decode cX1_opensRests 17 = .ok (.ifCond .eq 23, 3) := by decide +kernel
theorem dX1_opensRests_20 : decode cX1_opensRests 20 = .ok (.aload_n 0, 1) := by decide +kernel
theorem dX1_opensRests_21 : decode cX1_opensRests 21 = .ok (.iload_n 1, 1) := by decide +kernel
theorem dX1_opensRests_22 : decode cX1_opensRests 22 = .ok (.iconst 3, 1) := by decide +kernel
theorem dX1_opensRests_23 : decode cX1_opensRests 23 = .ok (.invokevirtual 54, 3) := by decide +kernel
theorem dX1_opensRests_26 : decode cX1_opensRests 26 = .ok (.ifCond .ne 14, 3) := by decide +kernel
theorem dX1_opensRests_29 : decode cX1_opensRests 29 = .ok (.aload_n 0, 1) := by decide +kernel
theorem dX1_opensRests_30 : decode cX1_opensRests 30 = .ok (.iload_n 1, 1) := by decide +kernel
theorem dX1_opensRests_31 : decode cX1_opensRests 31 = .ok (.iconst 1, 1) := by decide +kernel
theorem dX1_opensRests_32 : decode cX1_opensRests 32 = .ok (.isub, 1) := by decide +kernel
theorem dX1_opensRests_33 : decode cX1_opensRests 33 = .ok (.iconst 1, 1) := by decide +kernel
theorem dX1_opensRests_34 : decode cX1_opensRests 34 = .ok (.invokevirtual 54, 3) := by decide +kernel
theorem dX1_opensRests_37 : decode cX1_opensRests 37 = .ok (.ifCond .eq 7, 3) := by decide +kernel
theorem dX1_opensRests_40 : decode cX1_opensRests 40 = .ok (.iconst 1, 1) := by decide +kernel
theorem dX1_opensRests_41 : decode cX1_opensRests 41 = .ok (.goto 4, 3) := by decide +kernel
theorem dX1_opensRests_44 : decode cX1_opensRests 44 = .ok (.iconst 0, 1) := by decide +kernel
theorem dX1_opensRests_45 : decode cX1_opensRests 45 = .ok (.ireturn, 1) := by decide +kernel
theorem dX1_restsLength_0 : decode cX1_restsLength 0 = .ok (.iconst 1, 1) := by decide +kernel
theorem dX1_restsLength_1 : decode cX1_restsLength 1 = .ok (.istore_n 2, 1) := by decide +kernel
theorem dX1_restsLength_2 : decode cX1_restsLength 2 = .ok (.iload_n 1, 1) := by decide +kernel
theorem dX1_restsLength_3 : decode cX1_restsLength 3 = .ok (.iconst 1, 1) := by decide +kernel
theorem dX1_restsLength_4 : decode cX1_restsLength 4 = .ok (.iadd, 1) := by decide +kernel
theorem dX1_restsLength_5 : decode cX1_restsLength 5 = .ok (.istore_n 3, 1) := by decide +kernel
theorem dX1_restsLength_6 : decode cX1_restsLength 6 = .ok (.iload_n 3, 1) := by decide +kernel
theorem dX1_restsLength_7 : decode cX1_restsLength 7 = .ok (.aload_n 0, 1) := by decide +kernel
theorem dX1_restsLength_8 : decode cX1_restsLength 8 = .ok (.getfield 22, 3) := by decide +kernel
theorem dX1_restsLength_11 : decode cX1_restsLength 11 = .ok (.if_icmp .ge 28, 3) := by decide +kernel
theorem dX1_restsLength_14 : decode cX1_restsLength 14 = .ok (.aload_n 0, 1) := by decide +kernel
theorem dX1_restsLength_15 : decode cX1_restsLength 15 = .ok (.iload_n 3, 1) := by decide +kernel
theorem dX1_restsLength_16 : decode cX1_restsLength 16 = .ok (.invokevirtual 51, 3) := by decide +kernel
theorem dX1_restsLength_19 : decode cX1_restsLength 19 = .ok (.ifCond .eq 20, 3) := by decide +kernel
theorem dX1_restsLength_22 : decode cX1_restsLength 22 = .ok (.aload_n 0, 1) := by decide +kernel
theorem dX1_restsLength_23 : decode cX1_restsLength 23 = .ok (.iload_n 3, 1) := by decide +kernel
theorem dX1_restsLength_24 : decode cX1_restsLength 24 = .ok (.invokevirtual 58, 3) := by decide +kernel
theorem dX1_restsLength_27 : decode cX1_restsLength 27 = .ok (.ifCond .ne 12, 3) := by decide +kernel
theorem dX1_restsLength_30 : decode cX1_restsLength 30 = .ok (.iinc 2 1, 3) := by decide +kernel
theorem dX1_restsLength_33 : decode cX1_restsLength 33 = .ok (.iinc 3 1, 3) := by decide +kernel
theorem dX1_restsLength_36 : decode cX1_restsLength 36 = .ok (.goto (-30), 3) := by decide +kernel
theorem dX1_restsLength_39 : decode cX1_restsLength 39 = .ok (.iload_n 2, 1) := by decide +kernel
theorem dX1_restsLength_40 : decode cX1_restsLength 40 = .ok (.ireturn, 1) := by decide +kernel
theorem dX1_restsAt_0 : decode cX1_restsAt 0 = .ok (.iload_n 1, 1) := by decide +kernel
theorem dX1_restsAt_1 : decode cX1_restsAt 1 = .ok (.istore_n 2, 1) := by decide +kernel
theorem dX1_restsAt_2 : decode cX1_restsAt 2 = .ok (.iconst 0, 1) := by decide +kernel
theorem dX1_restsAt_3 : decode cX1_restsAt 3 = .ok (.istore_n 3, 1) := by decide +kernel
theorem dX1_restsAt_4 : decode cX1_restsAt 4 = .ok (.iload_n 3, 1) := by decide +kernel
theorem dX1_restsAt_5 : decode cX1_restsAt 5 = .ok (.aload_n 0, 1) := by decide +kernel
theorem dX1_restsAt_6 : decode cX1_restsAt 6 = .ok (.getfield 22, 3) := by decide +kernel
theorem dX1_restsAt_9 : decode cX1_restsAt 9 = .ok (.if_icmp .ge 40, 3) := by decide +kernel
theorem dX1_restsAt_12 : decode cX1_restsAt 12 = .ok (.aload_n 0, 1) := by decide +kernel
theorem dX1_restsAt_13 : decode cX1_restsAt 13 = .ok (.iload_n 3, 1) := by decide +kernel
theorem dX1_restsAt_14 : decode cX1_restsAt 14 = .ok (.invokevirtual 58, 3) := by decide +kernel
theorem dX1_restsAt_17 : decode cX1_restsAt 17 = .ok (.ifCond .eq 26, 3) := by decide +kernel
theorem dX1_restsAt_20 : decode cX1_restsAt 20 = .ok (.iload_n 2, 1) := by decide +kernel
theorem dX1_restsAt_21 : decode cX1_restsAt 21 = .ok (.ifCond .ne 19, 3) := by decide +kernel
theorem dX1_restsAt_24 : decode cX1_restsAt 24 = .ok (.bipush 100, 2) := by decide +kernel
theorem dX1_restsAt_26 : decode cX1_restsAt 26 = .ok (.aload_n 0, 1) := by decide +kernel
theorem dX1_restsAt_27 : decode cX1_restsAt 27 = .ok (.getfield 15, 3) := by decide +kernel
theorem dX1_restsAt_30 : decode cX1_restsAt 30 = .ok (.iload_n 3, 1) := by decide +kernel
theorem dX1_restsAt_31 : decode cX1_restsAt 31 = .ok (.iaload, 1) := by decide +kernel
theorem dX1_restsAt_32 : decode cX1_restsAt 32 = .ok (.imul, 1) := by decide +kernel
theorem dX1_restsAt_33 : decode cX1_restsAt 33 = .ok (.aload_n 0, 1) := by decide +kernel
theorem dX1_restsAt_34 : decode cX1_restsAt 34 = .ok (.iload_n 3, 1) := by decide +kernel
theorem dX1_restsAt_35 : decode cX1_restsAt 35 = .ok (.invokevirtual 61, 3) := by decide +kernel
theorem dX1_restsAt_38 : decode cX1_restsAt 38 = .ok (.iadd, 1) := by decide +kernel
theorem dX1_restsAt_39 : decode cX1_restsAt 39 = .ok (.ireturn, 1) := by decide +kernel
theorem dX1_restsAt_40 : decode cX1_restsAt 40 = .ok (.iinc 2 (-1), 3) := by decide +kernel
theorem dX1_restsAt_43 : decode cX1_restsAt 43 = .ok (.iinc 3 1, 3) := by decide +kernel
theorem dX1_restsAt_46 : decode cX1_restsAt 46 = .ok (.goto (-42), 3) := by decide +kernel
theorem dX1_restsAt_49 : decode cX1_restsAt 49 = .ok (.ldc 65, 2) := by decide +kernel
theorem dX1_restsAt_51 : decode cX1_restsAt 51 = .ok (.ireturn, 1) := by decide +kernel
theorem dX1_placeOf_0 : decode cX1_placeOf 0 = .ok (.iconst 0, 1) := by decide +kernel
theorem dX1_placeOf_1 : decode cX1_placeOf 1 = .ok (.istore_n 2, 1) := by decide +kernel
theorem dX1_placeOf_2 : decode cX1_placeOf 2 = .ok (.iload_n 2, 1) := by decide +kernel
theorem dX1_placeOf_3 : decode cX1_placeOf 3 = .ok (.aload_n 0, 1) := by decide +kernel
theorem dX1_placeOf_4 : decode cX1_placeOf 4 = .ok (.getfield 22, 3) := by decide +kernel
theorem dX1_placeOf_7 : decode cX1_placeOf 7 = .ok (.if_icmp .ge 21, 3) := by decide +kernel
theorem dX1_placeOf_10 : decode cX1_placeOf 10 = .ok (.aload_n 0, 1) := by decide +kernel
theorem dX1_placeOf_11 : decode cX1_placeOf 11 = .ok (.getfield 15, 3) := by decide +kernel
theorem dX1_placeOf_14 : decode cX1_placeOf 14 = .ok (.iload_n 2, 1) := by decide +kernel
theorem dX1_placeOf_15 : decode cX1_placeOf 15 = .ok (.iaload, 1) := by decide +kernel
theorem dX1_placeOf_16 : decode cX1_placeOf 16 = .ok (.iload_n 1, 1) := by decide +kernel
theorem dX1_placeOf_17 : decode cX1_placeOf 17 = .ok (.if_icmp .ne 5, 3) := by decide +kernel
theorem dX1_placeOf_20 : decode cX1_placeOf 20 = .ok (.iload_n 2, 1) := by decide +kernel
theorem dX1_placeOf_21 : decode cX1_placeOf 21 = .ok (.ireturn, 1) := by decide +kernel
theorem dX1_placeOf_22 : decode cX1_placeOf 22 = .ok (.iinc 2 1, 3) := by decide +kernel
theorem dX1_placeOf_25 : decode cX1_placeOf 25 = .ok (.goto (-23), 3) := by decide +kernel
theorem dX1_placeOf_28 : decode cX1_placeOf 28 = .ok (.iconst (-1), 1) := by decide +kernel
theorem dX1_placeOf_29 : decode cX1_placeOf 29 = .ok (.ireturn, 1) := by decide +kernel
theorem dX1_barAt_0 : decode cX1_barAt 0 = .ok (.aload_n 0, 1) := by decide +kernel
theorem dX1_barAt_1 : decode cX1_barAt 1 = .ok (.iload_n 1, 1) := by decide +kernel
theorem dX1_barAt_2 : decode cX1_barAt 2 = .ok (.invokevirtual 45, 3) := by decide +kernel
theorem dX1_barAt_5 : decode cX1_barAt 5 = .ok (.ifCond .eq 12, 3) := by decide +kernel
theorem dX1_barAt_8 : decode cX1_barAt 8 = .ok (.aload_n 0, 1) := by decide +kernel
theorem dX1_barAt_9 : decode cX1_barAt 9 = .ok (.getfield 15, 3) := by decide +kernel
theorem dX1_barAt_12 : decode cX1_barAt 12 = .ok (.iload_n 1, 1) := by decide +kernel
theorem dX1_barAt_13 : decode cX1_barAt 13 = .ok (.iaload, 1) := by decide +kernel
theorem dX1_barAt_14 : decode cX1_barAt 14 = .ok (.goto 5, 3) := by decide +kernel
theorem dX1_barAt_17 : decode cX1_barAt 17 = .ok (.ldc 65, 2) := by decide +kernel
theorem dX1_barAt_19 : decode cX1_barAt 19 = .ok (.ireturn, 1) := by decide +kernel
theorem dX1_secondsAt_0 : decode cX1_secondsAt 0 = .ok (.aload_n 0, 1) := by decide +kernel
theorem dX1_secondsAt_1 : decode cX1_secondsAt 1 = .ok (.iload_n 1, 1) := by decide +kernel
theorem dX1_secondsAt_2 : decode cX1_secondsAt 2 = .ok (.invokevirtual 45, 3) := by decide +kernel
theorem dX1_secondsAt_5 : decode cX1_secondsAt 5 = .ok (.ifCond .eq 20, 3) := by decide +kernel
theorem dX1_secondsAt_8 : decode cX1_secondsAt 8 = .ok (.aload_n 0, 1) := by decide +kernel
theorem dX1_secondsAt_9 : decode cX1_secondsAt 9 = .ok (.getfield 9, 3) := by decide +kernel
theorem dX1_secondsAt_12 : decode cX1_secondsAt 12 = .ok (.getfield 66, 3) := by decide +kernel
theorem dX1_secondsAt_15 : decode cX1_secondsAt 15 = .ok (.aload_n 0, 1) := by decide +kernel
theorem dX1_secondsAt_16 : decode cX1_secondsAt 16 = .ok (.getfield 15, 3) := by decide +kernel
theorem dX1_secondsAt_19 : decode cX1_secondsAt 19 = .ok (.iload_n 1, 1) := by decide +kernel
theorem dX1_secondsAt_20 : decode cX1_secondsAt 20 = .ok (.iaload, 1) := by decide +kernel
theorem dX1_secondsAt_21 : decode cX1_secondsAt 21 = .ok (.iaload, 1) := by decide +kernel
theorem dX1_secondsAt_22 : decode cX1_secondsAt 22 = .ok (.goto 4, 3) := by decide +kernel
theorem dX1_secondsAt_25 : decode cX1_secondsAt 25 = .ok (.iconst 0, 1) := by decide +kernel
theorem dX1_secondsAt_26 : decode cX1_secondsAt 26 = .ok (.ireturn, 1) := by decide +kernel
theorem dX1_notesAt_0 : decode cX1_notesAt 0 = .ok (.aload_n 0, 1) := by decide +kernel
theorem dX1_notesAt_1 : decode cX1_notesAt 1 = .ok (.iload_n 1, 1) := by decide +kernel
theorem dX1_notesAt_2 : decode cX1_notesAt 2 = .ok (.invokevirtual 45, 3) := by decide +kernel
theorem dX1_notesAt_5 : decode cX1_notesAt 5 = .ok (.ifCond .eq 12, 3) := by decide +kernel
theorem dX1_notesAt_8 : decode cX1_notesAt 8 = .ok (.aload_n 0, 1) := by decide +kernel
theorem dX1_notesAt_9 : decode cX1_notesAt 9 = .ok (.getfield 19, 3) := by decide +kernel
theorem dX1_notesAt_12 : decode cX1_notesAt 12 = .ok (.iload_n 1, 1) := by decide +kernel
theorem dX1_notesAt_13 : decode cX1_notesAt 13 = .ok (.iaload, 1) := by decide +kernel
theorem dX1_notesAt_14 : decode cX1_notesAt 14 = .ok (.goto 4, 3) := by decide +kernel
theorem dX1_notesAt_17 : decode cX1_notesAt 17 = .ok (.iconst 0, 1) := by decide +kernel
theorem dX1_notesAt_18 : decode cX1_notesAt 18 = .ok (.ireturn, 1) := by decide +kernel
theorem dX1_cueAt_0 : decode cX1_cueAt 0 = .ok (.aload_n 0, 1) := by decide +kernel
theorem dX1_cueAt_1 : decode cX1_cueAt 1 = .ok (.iload_n 1, 1) := by decide +kernel
theorem dX1_cueAt_2 : decode cX1_cueAt 2 = .ok (.invokevirtual 69, 3) := by decide +kernel
theorem dX1_cueAt_5 : decode cX1_cueAt 5 = .ok (.ifCond .eq 11, 3) := by decide +kernel
theorem dX1_cueAt_8 : decode cX1_cueAt 8 = .ok (.aload_n 0, 1) := by decide +kernel
theorem dX1_cueAt_9 : decode cX1_cueAt 9 = .ok (.iload_n 1, 1) := by decide +kernel
theorem dX1_cueAt_10 : decode cX1_cueAt 10 = .ok (.invokevirtual 72, 3) := by decide +kernel
theorem dX1_cueAt_13 : decode cX1_cueAt 13 = .ok (.ifCond .ne 6, 3) := by decide +kernel
theorem dX1_cueAt_16 : decode cX1_cueAt 16 = .ok (.ldc 65, 2) := by decide +kernel
theorem dX1_cueAt_18 : decode cX1_cueAt 18 = .ok (.ireturn, 1) := by decide +kernel
theorem dX1_cueAt_19 : decode cX1_cueAt 19 = .ok (.ldc 65, 2) := by decide +kernel
theorem dX1_cueAt_21 : decode cX1_cueAt 21 = .ok (.istore_n 2, 1) := by decide +kernel
theorem dX1_cueAt_22 : decode cX1_cueAt 22 = .ok (.iconst 0, 1) := by decide +kernel
theorem dX1_cueAt_23 : decode cX1_cueAt 23 = .ok (.istore_n 3, 1) := by decide +kernel
theorem dX1_cueAt_24 : decode cX1_cueAt 24 = .ok (.iconst 0, 1) := by decide +kernel
theorem dX1_cueAt_25 : decode cX1_cueAt 25 = .ok (.istore 4, 2) := by decide +kernel
theorem dX1_cueAt_27 : decode cX1_cueAt 27 = .ok (.iload 4, 2) := by decide +kernel
theorem dX1_cueAt_29 : decode cX1_cueAt 29 = .ok (.aload_n 0, 1) := by decide +kernel
theorem dX1_cueAt_30 : decode cX1_cueAt 30 = .ok (.getfield 9, 3) := by decide +kernel
theorem dX1_cueAt_33 : decode cX1_cueAt 33 = .ok (.getfield 75, 3) := by decide +kernel
theorem dX1_cueAt_36 : decode cX1_cueAt 36 = .ok (.if_icmp .ge 43, 3) := by decide +kernel
theorem dX1_cueAt_39 : decode cX1_cueAt 39 = .ok (.iload 4, 2) := by decide +kernel
theorem dX1_cueAt_41 : decode cX1_cueAt 41 = .ok (.aload_n 0, 1) := by decide +kernel
theorem dX1_cueAt_42 : decode cX1_cueAt 42 = .ok (.getfield 26, 3) := by decide +kernel
theorem dX1_cueAt_45 : decode cX1_cueAt 45 = .ok (.if_icmp .ne 7, 3) := by decide +kernel
theorem dX1_cueAt_48 : decode cX1_cueAt 48 = .ok (.iconst 0, 1) := by decide +kernel
theorem dX1_cueAt_49 : decode cX1_cueAt 49 = .ok (.goto 10, 3) := by decide +kernel
theorem dX1_cueAt_52 : decode cX1_cueAt 52 = .ok (.aload_n 0, 1) := by decide +kernel
theorem dX1_cueAt_53 : decode cX1_cueAt 53 = .ok (.iload 4, 2) := by decide +kernel
theorem dX1_cueAt_55 : decode cX1_cueAt 55 = .ok (.iload_n 1, 1) := by decide +kernel
theorem dX1_cueAt_56 : decode cX1_cueAt 56 = .ok (.invokevirtual 78, 3) := by decide +kernel
theorem dX1_cueAt_59 : decode cX1_cueAt 59 = .ok (.istore 5, 2) := by decide +kernel
theorem dX1_cueAt_61 : decode cX1_cueAt 61 = .ok (.iload 5, 2) := by decide +kernel
theorem dX1_cueAt_63 : decode cX1_cueAt 63 = .ok (.iload_n 3, 1) := by decide +kernel
theorem dX1_cueAt_64 : decode cX1_cueAt 64 = .ok (.if_icmp .le 9, 3) := by decide +kernel
theorem dX1_cueAt_67 : decode cX1_cueAt 67 = .ok (.iload 5, 2) := by decide +kernel
theorem dX1_cueAt_69 : decode cX1_cueAt 69 = .ok (.istore_n 3, 1) := by decide +kernel
theorem dX1_cueAt_70 : decode cX1_cueAt 70 = .ok (.iload 4, 2) := by decide +kernel
theorem dX1_cueAt_72 : decode cX1_cueAt 72 = .ok (.istore_n 2, 1) := by decide +kernel
theorem dX1_cueAt_73 : decode cX1_cueAt 73 = .ok (.iinc 4 1, 3) := by decide +kernel
theorem dX1_cueAt_76 : decode cX1_cueAt 76 = .ok (.goto (-49), 3) := by decide +kernel
theorem dX1_cueAt_79 : decode cX1_cueAt 79 = .ok (.iload_n 2, 1) := by decide +kernel
theorem dX1_cueAt_80 : decode cX1_cueAt 80 = .ok (.ireturn, 1) := by decide +kernel
theorem dX1_restsAhead_0 : decode cX1_restsAhead 0 = .ok (.iload_n 1, 1) := by decide +kernel
theorem dX1_restsAhead_1 : decode cX1_restsAhead 1 = .ok (.aload_n 0, 1) := by decide +kernel
theorem dX1_restsAhead_2 : decode cX1_restsAhead 2 = .ok (.getfield 29, 3) := by decide +kernel
theorem dX1_restsAhead_5 : decode cX1_restsAhead 5 = .ok (.isub, 1) := by decide +kernel
theorem dX1_restsAhead_6 : decode cX1_restsAhead 6 = .ok (.istore_n 2, 1) := by decide +kernel
theorem dX1_restsAhead_7 : decode cX1_restsAhead 7 = .ok (.iload_n 2, 1) := by decide +kernel
theorem dX1_restsAhead_8 : decode cX1_restsAhead 8 = .ok (.iload_n 1, 1) := by decide +kernel
theorem dX1_restsAhead_9 : decode cX1_restsAhead 9 = .ok (.if_icmp .ge 19, 3) := by decide +kernel
theorem dX1_restsAhead_12 : decode cX1_restsAhead 12 = .ok (.aload_n 0, 1) := by decide +kernel
theorem dX1_restsAhead_13 : decode cX1_restsAhead 13 = .ok (.iload_n 2, 1) := by decide +kernel
theorem dX1_restsAhead_14 : decode cX1_restsAhead 14 = .ok (.invokevirtual 51, 3) := by decide +kernel
theorem dX1_restsAhead_17 : decode cX1_restsAhead 17 = .ok (.ifCond .ne 5, 3) := by decide +kernel
theorem dX1_restsAhead_20 : decode cX1_restsAhead 20 = .ok (.iconst 0, 1) := by decide +kernel
theorem dX1_restsAhead_21 : decode cX1_restsAhead 21 = .ok (.ireturn, 1) := by decide +kernel
theorem dX1_restsAhead_22 : decode cX1_restsAhead 22 = .ok (.iinc 2 1, 3) := by decide +kernel
theorem dX1_restsAhead_25 : decode cX1_restsAhead 25 = .ok (.goto (-18), 3) := by decide +kernel
theorem dX1_restsAhead_28 : decode cX1_restsAhead 28 = .ok (.iconst 1, 1) := by decide +kernel
theorem dX1_restsAhead_29 : decode cX1_restsAhead 29 = .ok (.ireturn, 1) := by decide +kernel
theorem dX1_heardAhead_0 : decode cX1_heardAhead 0 = .ok (.aload_n 0, 1) := by decide +kernel
theorem dX1_heardAhead_1 : decode cX1_heardAhead 1 = .ok (.getfield 9, 3) := by decide +kernel
theorem dX1_heardAhead_4 : decode cX1_heardAhead 4 = .ok (.iload_n 1, 1) := by decide +kernel
theorem dX1_heardAhead_5 : decode cX1_heardAhead 5 = .ok (.invokevirtual 32, 3) := by decide +kernel
theorem dX1_heardAhead_8 : decode cX1_heardAhead 8 = .ok (.astore_n 3, 1) := by decide +kernel
theorem dX1_heardAhead_9 : decode cX1_heardAhead 9 = .ok (.aload_n 3, 1) := by decide +kernel
theorem dX1_heardAhead_10 : decode cX1_heardAhead 10 = .ok (.ifnull 10, 3) := by decide +kernel
theorem dX1_heardAhead_13 : decode cX1_heardAhead 13 = .ok (.aload_n 3, 1) := by decide +kernel
theorem dX1_heardAhead_14 : decode cX1_heardAhead 14 = .ok (.getfield 82, 3) := by decide +kernel
theorem dX1_heardAhead_17 : decode cX1_heardAhead 17 = .ok (.ifCond .ne 5, 3) := by decide +kernel
theorem dX1_heardAhead_20 : decode cX1_heardAhead 20 = .ok (.iconst 0, 1) := by decide +kernel
theorem dX1_heardAhead_21 : decode cX1_heardAhead 21 = .ok (.ireturn, 1) := by decide +kernel
theorem dX1_heardAhead_22 : decode cX1_heardAhead 22 = .ok (.iconst 0, 1) := by decide +kernel
theorem dX1_heardAhead_23 : decode cX1_heardAhead 23 = .ok (.istore 4, 2) := by decide +kernel
theorem dX1_heardAhead_25 : decode cX1_heardAhead 25 = .ok (.iload_n 2, 1) := by decide +kernel
theorem dX1_heardAhead_26 : decode cX1_heardAhead 26 = .ok (.aload_n 0, 1) := by decide +kernel
theorem dX1_heardAhead_27 : decode cX1_heardAhead 27 = .ok (.getfield 29, 3) := by decide +kernel
theorem dX1_heardAhead_30 : decode cX1_heardAhead 30 = .ok (.iconst 2, 1) := by decide +kernel
theorem dX1_heardAhead_31 : decode cX1_heardAhead 31 = .ok (.invokestatic 86, 3) := by decide +kernel
theorem dX1_heardAhead_34 : decode cX1_heardAhead 34 = .ok (.isub, 1) := by decide +kernel
theorem dX1_heardAhead_35 : decode cX1_heardAhead 35 = .ok (.istore 5, 2) := by decide +kernel
theorem dX1_heardAhead_37 : decode cX1_heardAhead 37 = .ok (.iload 5, 2) := by decide +kernel
theorem dX1_heardAhead_39 : decode cX1_heardAhead 39 = .ok (.iload_n 2, 1) := by decide +kernel
theorem dX1_heardAhead_40 : decode cX1_heardAhead 40 = .ok (.if_icmp .ge 35, 3) := by decide +kernel
theorem dX1_heardAhead_43 : decode cX1_heardAhead 43 = .ok (.aload_n 0, 1) := by decide +kernel
theorem dX1_heardAhead_44 : decode cX1_heardAhead 44 = .ok (.iload 5, 2) := by decide +kernel
theorem dX1_heardAhead_46 : decode cX1_heardAhead 46 = .ok (.invokevirtual 45, 3) := by decide +kernel
theorem dX1_heardAhead_49 : decode cX1_heardAhead 49 = .ok (.ifCond .eq 20, 3) := by decide +kernel
theorem dX1_heardAhead_52 : decode cX1_heardAhead 52 = .ok (.iload 4, 2) := by decide +kernel
theorem dX1_heardAhead_54 : decode cX1_heardAhead 54 = .ok (.aload_n 3, 1) := by decide +kernel
theorem dX1_heardAhead_55 : decode cX1_heardAhead 55 = .ok (.getfield 91, 3) := by decide +kernel
theorem dX1_heardAhead_58 : decode cX1_heardAhead 58 = .ok (.aload_n 0, 1) := by decide +kernel
theorem dX1_heardAhead_59 : decode cX1_heardAhead 59 = .ok (.getfield 15, 3) := by decide +kernel
theorem dX1_heardAhead_62 : decode cX1_heardAhead 62 = .ok (.iload 5, 2) := by decide +kernel
theorem dX1_heardAhead_64 : decode cX1_heardAhead 64 = .ok (.iaload, 1) := by decide +kernel
theorem dX1_heardAhead_65 : decode cX1_heardAhead 65 = .ok (.iaload, 1) := by decide +kernel
theorem dX1_heardAhead_66 : decode cX1_heardAhead 66 = .ok (.iadd, 1) := by decide +kernel
theorem dX1_heardAhead_67 : decode cX1_heardAhead 67 = .ok (.istore 4, 2) := by decide +kernel
theorem dX1_heardAhead_69 : decode cX1_heardAhead 69 = .ok (.iinc 5 1, 3) := by decide +kernel
theorem dX1_heardAhead_72 : decode cX1_heardAhead 72 = .ok (.goto (-35), 3) := by decide +kernel
theorem dX1_heardAhead_75 : decode cX1_heardAhead 75 = .ok (.iload 4, 2) := by decide +kernel
theorem dX1_heardAhead_77 : decode cX1_heardAhead 77 = .ok (.ireturn, 1) := by decide +kernel
theorem dX2_init_0 : decode cX2_init 0 = .ok (.aload_n 0, 1) := by decide +kernel
theorem dX2_init_1 : decode cX2_init 1 = .ok (.invokespecial 3, 3) := by decide +kernel
theorem dX2_init_4 : decode cX2_init 4 = .ok (.aload_n 0, 1) := by decide +kernel
theorem dX2_init_5 : decode cX2_init 5 = .ok (.bipush 40, 2) := by decide +kernel
theorem dX2_init_7 : decode cX2_init 7 = .ok (.newarray .int, 2) := by decide +kernel
theorem dX2_init_9 : decode cX2_init 9 = .ok (.putfield 9, 3) := by decide +kernel
theorem dX2_init_12 : decode cX2_init 12 = .ok (.aload_n 0, 1) := by decide +kernel
theorem dX2_init_13 : decode cX2_init 13 = .ok (.bipush 40, 2) := by decide +kernel
theorem dX2_init_15 : decode cX2_init 15 = .ok (.newarray .int, 2) := by decide +kernel
theorem dX2_init_17 : decode cX2_init 17 = .ok (.putfield 15, 3) := by decide +kernel
theorem dX2_init_20 : decode cX2_init 20 = .ok (.aload_n 0, 1) := by decide +kernel
theorem dX2_init_21 : decode cX2_init 21 = .ok (.bipush 6, 2) := by decide +kernel
theorem dX2_init_23 : decode cX2_init 23 = .ok (.anewarray 18, 3) := by decide +kernel
theorem dX2_init_26 : decode cX2_init 26 = .ok (.putfield 20, 3) := by decide +kernel
theorem dX2_init_29 : decode cX2_init 29 = .ok (.aload_n 0, 1) := by decide +kernel
theorem dX2_init_30 : decode cX2_init 30 = .ok (.iconst 0, 1) := by decide +kernel
theorem dX2_init_31 : decode cX2_init 31 = .ok (.putfield 24, 3) := by decide +kernel
theorem dX2_init_34 : decode cX2_init 34 = .ok (.aload_n 0, 1) := by decide +kernel
theorem dX2_init_35 : decode cX2_init 35 = .ok (.iconst 0, 1) := by decide +kernel
theorem dX2_init_36 : decode cX2_init 36 = .ok (.putfield 28, 3) := by decide +kernel
theorem dX2_init_39 : decode cX2_init 39 = .ok (.return_, 1) := by decide +kernel
theorem dX2_addBar_0 : decode cX2_addBar 0 = .ok (.aload_n 0, 1) := by decide +kernel
theorem dX2_addBar_1 : decode cX2_addBar 1 = .ok (.getfield 24, 3) := by decide +kernel
theorem dX2_addBar_4 : decode cX2_addBar 4 = .ok (.bipush 40, 2) := by decide +kernel
theorem dX2_addBar_6 : decode cX2_addBar 6 = .ok (.if_icmp .lt 6, 3) := by decide +kernel
theorem dX2_addBar_9 : decode cX2_addBar 9 = .ok (.ldc 31, 2) := by decide +kernel
theorem dX2_addBar_11 : decode cX2_addBar 11 = .ok (.ireturn, 1) := by decide +kernel
theorem dX2_addBar_12 : decode cX2_addBar 12 = .ok (.aload_n 0, 1) := by decide +kernel
theorem dX2_addBar_13 : decode cX2_addBar 13 = .ok (.getfield 9, 3) := by decide +kernel
theorem dX2_addBar_16 : decode cX2_addBar 16 = .ok (.aload_n 0, 1) := by decide +kernel
theorem dX2_addBar_17 : decode cX2_addBar 17 = .ok (.getfield 24, 3) := by decide +kernel
theorem dX2_addBar_20 : decode cX2_addBar 20 = .ok (.iload_n 1, 1) := by decide +kernel
theorem dX2_addBar_21 : decode cX2_addBar 21 = .ok (.iastore, 1) := by decide +kernel
theorem dX2_addBar_22 : decode cX2_addBar 22 = .ok (.aload_n 0, 1) := by decide +kernel
theorem dX2_addBar_23 : decode cX2_addBar 23 = .ok (.dup, 1) := by decide +kernel
theorem dX2_addBar_24 : decode cX2_addBar 24 = .ok (.getfield 24, 3) := by decide +kernel
theorem dX2_addBar_27 : decode cX2_addBar 27 = .ok (.iconst 1, 1) := by decide +kernel
theorem dX2_addBar_28 : decode cX2_addBar 28 = .ok (.iadd, 1) := by decide +kernel
theorem dX2_addBar_29 : decode cX2_addBar 29 = .ok (.putfield 24, 3) := by decide +kernel
theorem dX2_addBar_32 : decode cX2_addBar 32 = .ok (.aload_n 0, 1) := by decide +kernel
theorem dX2_addBar_33 : decode cX2_addBar 33 = .ok (.getfield 24, 3) := by decide +kernel
theorem dX2_addBar_36 : decode cX2_addBar 36 = .ok (.iconst 1, 1) := by decide +kernel
theorem dX2_addBar_37 : decode cX2_addBar 37 = .ok (.isub, 1) := by decide +kernel
theorem dX2_addBar_38 : decode cX2_addBar 38 = .ok (.ireturn, 1) := by decide +kernel
theorem dX2_addVoice_0 : decode cX2_addVoice 0 = .ok (.aload_n 0, 1) := by decide +kernel
theorem dX2_addVoice_1 : decode cX2_addVoice 1 = .ok (.getfield 28, 3) := by decide +kernel
theorem dX2_addVoice_4 : decode cX2_addVoice 4 = .ok (.bipush 6, 2) := by decide +kernel
theorem dX2_addVoice_6 : decode cX2_addVoice 6 = .ok (.if_icmp .lt 6, 3) := by decide +kernel
theorem dX2_addVoice_9 : decode cX2_addVoice 9 = .ok (.ldc 31, 2) := by decide +kernel
theorem dX2_addVoice_11 : decode cX2_addVoice 11 = .ok (.ireturn, 1) := by decide +kernel
theorem dX2_addVoice_12 : decode cX2_addVoice 12 = .ok (.aload_n 0, 1) := by decide +kernel
theorem dX2_addVoice_13 : decode cX2_addVoice 13 = .ok (.getfield 20, 3) := by decide +kernel
theorem dX2_addVoice_16 : decode cX2_addVoice 16 = .ok (.aload_n 0, 1) := by decide +kernel
theorem dX2_addVoice_17 : decode cX2_addVoice 17 = .ok (.getfield 28, 3) := by decide +kernel
theorem dX2_addVoice_20 : decode cX2_addVoice 20 = .ok (.new 18, 3) := by decide +kernel
theorem dX2_addVoice_23 : decode cX2_addVoice 23 = .ok (.dup, 1) := by decide +kernel
theorem dX2_addVoice_24 : decode cX2_addVoice 24 = .ok (.iload_n 1, 1) := by decide +kernel
theorem dX2_addVoice_25 : decode cX2_addVoice 25 = .ok (.iload_n 2, 1) := by decide +kernel
theorem dX2_addVoice_26 : decode cX2_addVoice 26 = .ok (.invokespecial 32, 3) := by decide +kernel
theorem dX2_addVoice_29 : decode cX2_addVoice 29 = .ok (.aastore, 1) := by decide +kernel
theorem dX2_addVoice_30 : decode cX2_addVoice 30 = .ok (.aload_n 0, 1) := by decide +kernel
theorem dX2_addVoice_31 : decode cX2_addVoice 31 = .ok (.dup, 1) := by decide +kernel
theorem dX2_addVoice_32 : decode cX2_addVoice 32 = .ok (.getfield 28, 3) := by decide +kernel
theorem dX2_addVoice_35 : decode cX2_addVoice 35 = .ok (.iconst 1, 1) := by decide +kernel
theorem dX2_addVoice_36 : decode cX2_addVoice 36 = .ok (.iadd, 1) := by decide +kernel
theorem dX2_addVoice_37 : decode cX2_addVoice 37 = .ok (.putfield 28, 3) := by decide +kernel
theorem dX2_addVoice_40 : decode cX2_addVoice 40 = .ok (.aload_n 0, 1) := by decide +kernel
theorem dX2_addVoice_41 : decode cX2_addVoice 41 = .ok (.getfield 28, 3) := by decide +kernel
theorem dX2_addVoice_44 : decode cX2_addVoice 44 = .ok (.iconst 1, 1) := by decide +kernel
theorem dX2_addVoice_45 : decode cX2_addVoice 45 = .ok (.isub, 1) := by decide +kernel
theorem dX2_addVoice_46 : decode cX2_addVoice 46 = .ok (.ireturn, 1) := by decide +kernel
theorem dX2_hasBar_0 : decode cX2_hasBar 0 = .ok (.iload_n 1, 1) := by decide +kernel
theorem dX2_hasBar_1 : decode cX2_hasBar 1 = .ok (.ifCond .lt 15, 3) := by decide +kernel
theorem dX2_hasBar_4 : decode cX2_hasBar 4 = .ok (.iload_n 1, 1) := by decide +kernel
theorem dX2_hasBar_5 : decode cX2_hasBar 5 = .ok (.aload_n 0, 1) := by decide +kernel
theorem dX2_hasBar_6 : decode cX2_hasBar 6 = .ok (.getfield 24, 3) := by decide +kernel
theorem dX2_hasBar_9 : decode cX2_hasBar 9 = .ok (.if_icmp .ge 7, 3) := by decide +kernel
theorem dX2_hasBar_12 : decode cX2_hasBar 12 = .ok (.iconst 1, 1) := by decide +kernel
theorem dX2_hasBar_13 : decode cX2_hasBar 13 = .ok (.goto 4, 3) := by decide +kernel
theorem dX2_hasBar_16 : decode cX2_hasBar 16 = .ok (.iconst 0, 1) := by decide +kernel
theorem dX2_hasBar_17 : decode cX2_hasBar 17 = .ok (.ireturn, 1) := by decide +kernel
theorem dX2_isThere_0 : decode cX2_isThere 0 = .ok (.aload_n 0, 1) := by decide +kernel
theorem dX2_isThere_1 : decode cX2_isThere 1 = .ok (.iload_n 1, 1) := by decide +kernel
theorem dX2_isThere_2 : decode cX2_isThere 2 = .ok (.invokevirtual 35, 3) := by decide +kernel
theorem dX2_isThere_5 : decode cX2_isThere 5 = .ok (.ifCond .eq 18, 3) := by decide +kernel
theorem dX2_isThere_8 : decode cX2_isThere 8 = .ok (.aload_n 0, 1) := by decide +kernel
theorem dX2_isThere_9 : decode cX2_isThere 9 = .ok (.getfield 15, 3) := by decide +kernel
theorem dX2_isThere_12 : decode cX2_isThere 12 = .ok (.iload_n 1, 1) := by decide +kernel
theorem dX2_isThere_13 : decode cX2_isThere 13 = .ok (.iaload, 1) := by decide +kernel
theorem dX2_isThere_14 : decode cX2_isThere 14 = .ok (.iconst 4, 1) := by decide +kernel
theorem dX2_isThere_15 : decode cX2_isThere 15 = .ok (.iand, 1) := by decide +kernel
theorem dX2_isThere_16 : decode cX2_isThere 16 = .ok (.ifCond .ne 7, 3) := by decide +kernel
theorem dX2_isThere_19 : decode cX2_isThere 19 = .ok (.iconst 1, 1) := by decide +kernel
theorem dX2_isThere_20 : decode cX2_isThere 20 = .ok (.goto 4, 3) := by decide +kernel
theorem dX2_isThere_23 : decode cX2_isThere 23 = .ok (.iconst 0, 1) := by decide +kernel
theorem dX2_isThere_24 : decode cX2_isThere 24 = .ok (.ireturn, 1) := by decide +kernel
theorem dX2_voiceAt_0 : decode cX2_voiceAt 0 = .ok (.iload_n 1, 1) := by decide +kernel
theorem dX2_voiceAt_1 : decode cX2_voiceAt 1 = .ok (.ifCond .lt 20, 3) := by decide +kernel
theorem dX2_voiceAt_4 : decode cX2_voiceAt 4 = .ok (.iload_n 1, 1) := by decide +kernel
theorem dX2_voiceAt_5 : decode cX2_voiceAt 5 = .ok (.aload_n 0, 1) := by decide +kernel
theorem dX2_voiceAt_6 : decode cX2_voiceAt 6 = .ok (.getfield 28, 3) := by decide +kernel
theorem dX2_voiceAt_9 : decode cX2_voiceAt 9 = .ok (.if_icmp .ge 12, 3) := by decide +kernel
theorem dX2_voiceAt_12 : decode cX2_voiceAt 12 = .ok (.aload_n 0, 1) := by decide +kernel
theorem dX2_voiceAt_13 : decode cX2_voiceAt 13 = .ok (.getfield 20, 3) := by decide +kernel
theorem dX2_voiceAt_16 : decode cX2_voiceAt 16 = .ok (.iload_n 1, 1) := by decide +kernel
theorem dX2_voiceAt_17 : decode cX2_voiceAt 17 = .ok (.aaload, 1) := by decide +kernel
theorem dX2_voiceAt_18 : decode cX2_voiceAt 18 = .ok (.goto 4, 3) := by decide +kernel
theorem dX2_voiceAt_21 : decode cX2_voiceAt 21 = .ok (.aconst_null, 1) := by decide +kernel
theorem dX2_voiceAt_22 : decode cX2_voiceAt 22 = .ok (.areturn, 1) := by decide +kernel
theorem dX2_setCut_0 : decode cX2_setCut 0 = .ok (.iconst 0, 1) := by decide +kernel
theorem dX2_setCut_1 : decode cX2_setCut 1 = .ok (.istore 4, 2) := by decide +kernel
theorem dX2_setCut_3 : decode cX2_setCut 3 = .ok (.iload_n 1, 1) := by decide +kernel
theorem dX2_setCut_4 : decode cX2_setCut 4 = .ok (.istore 5, 2) := by decide +kernel
theorem dX2_setCut_6 : decode cX2_setCut 6 = .ok (.iload 5, 2) := by decide +kernel
theorem dX2_setCut_8 : decode cX2_setCut 8 = .ok (.iload_n 2, 1) := by decide +kernel
theorem dX2_setCut_9 : decode cX2_setCut 9 = .ok (.if_icmp .gt 42, 3) := by decide +kernel
theorem dX2_setCut_12 : decode cX2_setCut 12 = .ok (.iload 5, 2) := by decide +kernel
theorem dX2_setCut_14 : decode cX2_setCut 14 = .ok (.aload_n 0, 1) := by decide +kernel
theorem dX2_setCut_15 : decode cX2_setCut 15 = .ok (.getfield 24, 3) := by decide +kernel
theorem dX2_setCut_18 : decode cX2_setCut 18 = .ok (.if_icmp .ge 33, 3) := by decide +kernel
theorem dX2_setCut_21 : decode cX2_setCut 21 = .ok (.aload_n 0, 1) := by decide +kernel
theorem dX2_setCut_22 : decode cX2_setCut 22 = .ok (.iload 5, 2) := by decide +kernel
theorem dX2_setCut_24 : decode cX2_setCut 24 = .ok (.invokevirtual 39, 3) := by decide +kernel
theorem dX2_setCut_27 : decode cX2_setCut 27 = .ok (.iload_n 3, 1) := by decide +kernel
theorem dX2_setCut_28 : decode cX2_setCut 28 = .ok (.if_icmp .ne 17, 3) := by decide +kernel
theorem dX2_setCut_31 : decode cX2_setCut 31 = .ok (.aload_n 0, 1) := by decide +kernel
theorem dX2_setCut_32 : decode cX2_setCut 32 = .ok (.getfield 15, 3) := by decide +kernel
theorem dX2_setCut_35 : decode cX2_setCut 35 = .ok (.iload 5, 2) := by decide +kernel
theorem dX2_setCut_37 : decode cX2_setCut 37 = .ok (.dup2, 1) := by decide +kernel
theorem dX2_setCut_38 : decode cX2_setCut 38 = .ok (.iaload, 1) := by decide +kernel
theorem dX2_setCut_39 : decode cX2_setCut 39 = .ok (.iconst 4, 1) := by decide +kernel
theorem dX2_setCut_40 : decode cX2_setCut 40 = .ok (.ixor, 1) := by decide +kernel
theorem dX2_setCut_41 : decode cX2_setCut 41 = .ok (.iastore, 1) := by decide +kernel
theorem dX2_setCut_42 : decode cX2_setCut 42 = .ok (.iinc 4 1, 3) := by decide +kernel
theorem dX2_setCut_45 : decode cX2_setCut 45 = .ok (.iinc 5 1, 3) := by decide +kernel
theorem dX2_setCut_48 : decode cX2_setCut 48 = .ok (.goto (-42), 3) := by decide +kernel
theorem dX2_setCut_51 : decode cX2_setCut 51 = .ok (.iload 4, 2) := by decide +kernel
theorem dX2_setCut_53 : decode cX2_setCut 53 = .ok (.ireturn, 1) := by decide +kernel
theorem dX2_cutBars_0 : decode cX2_cutBars 0 = .ok (.iconst 0, 1) := by decide +kernel
theorem dX2_cutBars_1 : decode cX2_cutBars 1 = .ok (.istore_n 1, 1) := by decide +kernel
theorem dX2_cutBars_2 : decode cX2_cutBars 2 = .ok (.iconst 0, 1) := by decide +kernel
theorem dX2_cutBars_3 : decode cX2_cutBars 3 = .ok (.istore_n 2, 1) := by decide +kernel
theorem dX2_cutBars_4 : decode cX2_cutBars 4 = .ok (.iload_n 2, 1) := by decide +kernel
theorem dX2_cutBars_5 : decode cX2_cutBars 5 = .ok (.aload_n 0, 1) := by decide +kernel
theorem dX2_cutBars_6 : decode cX2_cutBars 6 = .ok (.getfield 24, 3) := by decide +kernel
theorem dX2_cutBars_9 : decode cX2_cutBars 9 = .ok (.if_icmp .ge 20, 3) := by decide +kernel
theorem dX2_cutBars_12 : decode cX2_cutBars 12 = .ok (.aload_n 0, 1) := by decide +kernel
theorem dX2_cutBars_13 : decode cX2_cutBars 13 = .ok (.iload_n 2, 1) := by decide +kernel
theorem dX2_cutBars_14 : decode cX2_cutBars 14 = .ok (.invokevirtual 39, 3) := by decide +kernel
theorem dX2_cutBars_17 : decode cX2_cutBars 17 = .ok (.ifCond .ne 6, 3) := by decide +kernel
theorem dX2_cutBars_20 : decode cX2_cutBars 20 = .ok (.iinc 1 1, 3) := by decide +kernel
theorem dX2_cutBars_23 : decode cX2_cutBars 23 = .ok (.iinc 2 1, 3) := by decide +kernel
theorem dX2_cutBars_26 : decode cX2_cutBars 26 = .ok (.goto (-22), 3) := by decide +kernel
theorem dX2_cutBars_29 : decode cX2_cutBars 29 = .ok (.iload_n 1, 1) := by decide +kernel
theorem dX2_cutBars_30 : decode cX2_cutBars 30 = .ok (.ireturn, 1) := by decide +kernel
theorem dX2_secondsLeft_0 : decode cX2_secondsLeft 0 = .ok (.iconst 0, 1) := by decide +kernel
theorem dX2_secondsLeft_1 : decode cX2_secondsLeft 1 = .ok (.istore_n 1, 1) := by decide +kernel
theorem dX2_secondsLeft_2 : decode cX2_secondsLeft 2 = .ok (.iconst 0, 1) := by decide +kernel
theorem dX2_secondsLeft_3 : decode cX2_secondsLeft 3 = .ok (.istore_n 2, 1) := by decide +kernel
theorem dX2_secondsLeft_4 : decode cX2_secondsLeft 4 = .ok (.iload_n 2, 1) := by decide +kernel
theorem dX2_secondsLeft_5 : decode cX2_secondsLeft 5 = .ok (.aload_n 0, 1) := by decide +kernel
theorem dX2_secondsLeft_6 : decode cX2_secondsLeft 6 = .ok (.getfield 24, 3) := by decide +kernel
theorem dX2_secondsLeft_9 : decode cX2_secondsLeft 9 = .ok (.if_icmp .ge 26, 3) := by decide +kernel
theorem dX2_secondsLeft_12 : decode cX2_secondsLeft 12 = .ok (.aload_n 0, 1) := by decide +kernel
theorem dX2_secondsLeft_13 : decode cX2_secondsLeft 13 = .ok (.iload_n 2, 1) := by decide +kernel
theorem dX2_secondsLeft_14 : decode cX2_secondsLeft 14 = .ok (.invokevirtual 39, 3) := by decide +kernel
theorem dX2_secondsLeft_17 : decode cX2_secondsLeft 17 = .ok (.ifCond .eq 12, 3) := by decide +kernel
theorem dX2_secondsLeft_20 : decode cX2_secondsLeft 20 = .ok (.iload_n 1, 1) := by decide +kernel
theorem dX2_secondsLeft_21 : decode cX2_secondsLeft 21 = .ok (.aload_n 0, 1) := by decide +kernel
theorem dX2_secondsLeft_22 : decode cX2_secondsLeft 22 = .ok (.getfield 9, 3) := by decide +kernel
theorem dX2_secondsLeft_25 : decode cX2_secondsLeft 25 = .ok (.iload_n 2, 1) := by decide +kernel
theorem dX2_secondsLeft_26 : decode cX2_secondsLeft 26 = .ok (.iaload, 1) := by decide +kernel
theorem dX2_secondsLeft_27 : decode cX2_secondsLeft 27 = .ok (.iadd, 1) := by decide +kernel
theorem dX2_secondsLeft_28 : decode cX2_secondsLeft 28 = .ok (.istore_n 1, 1) := by decide +kernel
theorem dX2_secondsLeft_29 : decode cX2_secondsLeft 29 = .ok (.iinc 2 1, 3) := by decide +kernel
theorem dX2_secondsLeft_32 : decode cX2_secondsLeft 32 = .ok (.goto (-28), 3) := by decide +kernel
theorem dX2_secondsLeft_35 : decode cX2_secondsLeft 35 = .ok (.iload_n 1, 1) := by decide +kernel
theorem dX2_secondsLeft_36 : decode cX2_secondsLeft 36 = .ok (.ireturn, 1) := by decide +kernel
theorem dX2_laidVoices_0 : decode cX2_laidVoices 0 = .ok (.iconst 0, 1) := by decide +kernel
theorem dX2_laidVoices_1 : decode cX2_laidVoices 1 = .ok (.istore_n 1, 1) := by decide +kernel
theorem dX2_laidVoices_2 : decode cX2_laidVoices 2 = .ok (.iconst 0, 1) := by decide +kernel
theorem dX2_laidVoices_3 : decode cX2_laidVoices 3 = .ok (.istore_n 2, 1) := by decide +kernel
theorem dX2_laidVoices_4 : decode cX2_laidVoices 4 = .ok (.iload_n 2, 1) := by decide +kernel
theorem dX2_laidVoices_5 : decode cX2_laidVoices 5 = .ok (.aload_n 0, 1) := by decide +kernel
theorem dX2_laidVoices_6 : decode cX2_laidVoices 6 = .ok (.getfield 28, 3) := by decide +kernel
theorem dX2_laidVoices_9 : decode cX2_laidVoices 9 = .ok (.if_icmp .ge 30, 3) := by decide +kernel
theorem dX2_laidVoices_12 : decode cX2_laidVoices 12 = .ok (.aload_n 0, 1) := by decide +kernel
theorem dX2_laidVoices_13 : decode cX2_laidVoices 13 = .ok (.getfield 20, 3) := by decide +kernel
theorem dX2_laidVoices_16 : decode cX2_laidVoices 16 = .ok (.iload_n 2, 1) := by decide +kernel
theorem dX2_laidVoices_17 : decode cX2_laidVoices 17 = .ok (.aaload, 1) := by decide +kernel
theorem dX2_laidVoices_18 : decode cX2_laidVoices 18 = .ok (.astore_n 3, 1) := by decide +kernel
theorem dX2_laidVoices_19 : decode cX2_laidVoices 19 = .ok (.aload_n 3, 1) := by decide +kernel
theorem dX2_laidVoices_20 : decode cX2_laidVoices 20 = .ok (.ifnull 13, 3) := by decide +kernel
theorem dX2_laidVoices_23 : decode cX2_laidVoices 23 = .ok (.aload_n 3, 1) := by decide +kernel
theorem dX2_laidVoices_24 : decode cX2_laidVoices 24 = .ok (.getfield 42, 3) := by decide +kernel
theorem dX2_laidVoices_27 : decode cX2_laidVoices 27 = .ok (.ifCond .le 6, 3) := by decide +kernel
theorem dX2_laidVoices_30 : decode cX2_laidVoices 30 = .ok (.iinc 1 1, 3) := by decide +kernel
theorem dX2_laidVoices_33 : decode cX2_laidVoices 33 = .ok (.iinc 2 1, 3) := by decide +kernel
theorem dX2_laidVoices_36 : decode cX2_laidVoices 36 = .ok (.goto (-32), 3) := by decide +kernel
theorem dX2_laidVoices_39 : decode cX2_laidVoices 39 = .ok (.iload_n 1, 1) := by decide +kernel
theorem dX2_laidVoices_40 : decode cX2_laidVoices 40 = .ok (.ireturn, 1) := by decide +kernel
theorem dX3_init_0 : decode cX3_init 0 = .ok (.aload_n 0, 1) := by decide +kernel
theorem dX3_init_1 : decode cX3_init 1 = .ok (.invokespecial 3, 3) := by decide +kernel
theorem dX3_init_4 : decode cX3_init 4 = .ok (.aload_n 0, 1) := by decide +kernel
theorem dX3_init_5 : decode cX3_init 5 = .ok (.bipush 40, 2) := by decide +kernel
theorem dX3_init_7 : decode cX3_init 7 = .ok (.newarray .int, 2) := by decide +kernel
theorem dX3_init_9 : decode cX3_init 9 = .ok (.putfield 9, 3) := by decide +kernel
theorem dX3_init_12 : decode cX3_init 12 = .ok (.aload_n 0, 1) := by decide +kernel
theorem dX3_init_13 : decode cX3_init 13 = .ok (.iconst 0, 1) := by decide +kernel
theorem dX3_init_14 : decode cX3_init 14 = .ok (.putfield 15, 3) := by decide +kernel
theorem dX3_init_17 : decode cX3_init 17 = .ok (.return_, 1) := by decide +kernel
theorem dX3_add_0 : decode cX3_add 0 = .ok (.aload_n 0, 1) := by decide +kernel
theorem dX3_add_1 : decode cX3_add 1 = .ok (.getfield 15, 3) := by decide +kernel
theorem dX3_add_4 : decode cX3_add 4 = .ok (.bipush 40, 2) := by decide +kernel
theorem dX3_add_6 : decode cX3_add 6 = .ok (.if_icmp .lt 6, 3) := by decide +kernel
theorem dX3_add_9 : decode cX3_add 9 = .ok (.ldc 19, 2) := by decide +kernel
theorem dX3_add_11 : decode cX3_add 11 = .ok (.ireturn, 1) := by decide +kernel
theorem dX3_add_12 : decode cX3_add 12 = .ok (.aload_n 0, 1) := by decide +kernel
theorem dX3_add_13 : decode cX3_add 13 = .ok (.getfield 9, 3) := by decide +kernel
theorem dX3_add_16 : decode cX3_add 16 = .ok (.aload_n 0, 1) := by decide +kernel
theorem dX3_add_17 : decode cX3_add 17 = .ok (.getfield 15, 3) := by decide +kernel
theorem dX3_add_20 : decode cX3_add 20 = .ok (.iload_n 1, 1) := by decide +kernel
theorem dX3_add_21 : decode cX3_add 21 = .ok (.iastore, 1) := by decide +kernel
theorem dX3_add_22 : decode cX3_add 22 = .ok (.aload_n 0, 1) := by decide +kernel
theorem dX3_add_23 : decode cX3_add 23 = .ok (.dup, 1) := by decide +kernel
theorem dX3_add_24 : decode cX3_add 24 = .ok (.getfield 15, 3) := by decide +kernel
theorem dX3_add_27 : decode cX3_add 27 = .ok (.iconst 1, 1) := by decide +kernel
theorem dX3_add_28 : decode cX3_add 28 = .ok (.iadd, 1) := by decide +kernel
theorem dX3_add_29 : decode cX3_add 29 = .ok (.putfield 15, 3) := by decide +kernel
theorem dX3_add_32 : decode cX3_add 32 = .ok (.aload_n 0, 1) := by decide +kernel
theorem dX3_add_33 : decode cX3_add 33 = .ok (.getfield 15, 3) := by decide +kernel
theorem dX3_add_36 : decode cX3_add 36 = .ok (.ireturn, 1) := by decide +kernel
theorem dX3_takeAll_0 : decode cX3_takeAll 0 = .ok (.aload_n 0, 1) := by decide +kernel
theorem dX3_takeAll_1 : decode cX3_takeAll 1 = .ok (.getfield 15, 3) := by decide +kernel
theorem dX3_takeAll_4 : decode cX3_takeAll 4 = .ok (.istore_n 1, 1) := by decide +kernel
theorem dX3_takeAll_5 : decode cX3_takeAll 5 = .ok (.aload_n 0, 1) := by decide +kernel
theorem dX3_takeAll_6 : decode cX3_takeAll 6 = .ok (.iconst 0, 1) := by decide +kernel
theorem dX3_takeAll_7 : decode cX3_takeAll 7 = .ok (.putfield 15, 3) := by decide +kernel
theorem dX3_takeAll_10 : decode cX3_takeAll 10 = .ok (.iload_n 1, 1) := by decide +kernel
theorem dX3_takeAll_11 : decode cX3_takeAll 11 = .ok (.ireturn, 1) := by decide +kernel
theorem dX3_compare_0 : decode cX3_compare 0 = .ok (.iconst 0, 1) := by decide +kernel
theorem dX3_compare_1 : decode cX3_compare 1 = .ok (.istore_n 3, 1) := by decide +kernel
theorem dX3_compare_2 : decode cX3_compare 2 = .ok (.iconst 0, 1) := by decide +kernel
theorem dX3_compare_3 : decode cX3_compare 3 = .ok (.istore 4, 2) := by decide +kernel
theorem dX3_compare_5 : decode cX3_compare 5 = .ok (.iload 4, 2) := by decide +kernel
theorem dX3_compare_7 : decode cX3_compare 7 = .ok (.aload_n 2, 1) := by decide +kernel
theorem dX3_compare_8 : decode cX3_compare 8 = .ok (.getfield 20, 3) := by decide +kernel
theorem dX3_compare_11 : decode cX3_compare 11 = .ok (.if_icmp .ge 83, 3) := by decide +kernel
theorem dX3_compare_14 : decode cX3_compare 14 = .ok (.aload_n 2, 1) := by decide +kernel
theorem dX3_compare_15 : decode cX3_compare 15 = .ok (.iload 4, 2) := by decide +kernel
theorem dX3_compare_17 : decode cX3_compare 17 = .ok (.invokevirtual 25, 3) := by decide +kernel
theorem dX3_compare_20 : decode cX3_compare 20 = .ok (.ifCond .ne 12, 3) := by decide +kernel
theorem dX3_compare_23 : decode cX3_compare 23 = .ok (.aload_n 2, 1) := by decide +kernel
theorem dX3_compare_24 : decode cX3_compare 24 = .ok (.iload 4, 2) := by decide +kernel
theorem dX3_compare_26 : decode cX3_compare 26 = .ok (.invokevirtual 29, 3) := by decide +kernel
theorem dX3_compare_29 : decode cX3_compare 29 = .ok (.ifCond .eq 59, 3) := by decide +kernel
theorem dX3_compare_32 : decode cX3_compare 32 = .ok (.aload_n 2, 1) := by decide +kernel
theorem dX3_compare_33 : decode cX3_compare 33 = .ok (.iload 4, 2) := by decide +kernel
theorem dX3_compare_35 : decode cX3_compare 35 = .ok (.invokevirtual 25, 3) := by decide +kernel
theorem dX3_compare_38 : decode cX3_compare 38 = .ok (.ifCond .eq 12, 3) := by decide +kernel
theorem dX3_compare_41 : decode cX3_compare 41 = .ok (.aload_n 2, 1) := by decide +kernel
theorem dX3_compare_42 : decode cX3_compare 42 = .ok (.iload 4, 2) := by decide +kernel
theorem dX3_compare_44 : decode cX3_compare 44 = .ok (.invokevirtual 32, 3) := by decide +kernel
theorem dX3_compare_47 : decode cX3_compare 47 = .ok (.goto 10, 3) := by decide +kernel
theorem dX3_compare_50 : decode cX3_compare 50 = .ok (.aload_n 2, 1) := by decide +kernel
theorem dX3_compare_51 : decode cX3_compare 51 = .ok (.iload 4, 2) := by decide +kernel
theorem dX3_compare_53 : decode cX3_compare 53 = .ok (.invokevirtual 36, 3) := by decide +kernel
theorem dX3_compare_56 : decode cX3_compare 56 = .ok (.ineg, 1) := by decide +kernel
theorem dX3_compare_57 : decode cX3_compare 57 = .ok (.istore 5, 2) := by decide +kernel
theorem dX3_compare_59 : decode cX3_compare 59 = .ok (.iload_n 3, 1) := by decide +kernel
theorem dX3_compare_60 : decode cX3_compare 60 = .ok (.iload_n 1, 1) := by decide +kernel
theorem dX3_compare_61 : decode cX3_compare 61 = .ok (.if_icmp .ge 20, 3) := by decide +kernel
theorem dX3_compare_64 : decode cX3_compare 64 = .ok (.iload_n 3, 1) := by decide +kernel
theorem dX3_compare_65 : decode cX3_compare 65 = .ok (.bipush 40, 2) := by decide +kernel
theorem dX3_compare_67 : decode cX3_compare 67 = .ok (.if_icmp .ge 14, 3) := by decide +kernel
theorem dX3_compare_70 : decode cX3_compare 70 = .ok (.aload_n 0, 1) := by decide +kernel
theorem dX3_compare_71 : decode cX3_compare 71 = .ok (.getfield 9, 3) := by decide +kernel
theorem dX3_compare_74 : decode cX3_compare 74 = .ok (.iload_n 3, 1) := by decide +kernel
theorem dX3_compare_75 : decode cX3_compare 75 = .ok (.iaload, 1) := by decide +kernel
theorem dX3_compare_76 : decode cX3_compare 76 = .ok (.iload 5, 2) := by decide +kernel
theorem dX3_compare_78 : decode cX3_compare 78 = .ok (.if_icmp .eq 7, 3) := by decide +kernel
theorem dX3_compare_81 : decode cX3_compare 81 = .ok (.iconst 1, 1) := by decide +kernel
theorem dX3_compare_82 : decode cX3_compare 82 = .ok (.iload_n 3, 1) := by decide +kernel
theorem dX3_compare_83 : decode cX3_compare 83 = .ok (.iadd, 1) := by decide +kernel
theorem dX3_compare_84 : decode cX3_compare 84 = .ok (.ireturn, 1) := by decide +kernel
theorem dX3_compare_85 : decode cX3_compare 85 = .ok (.iinc 3 1, 3) := by decide +kernel
theorem dX3_compare_88 : decode cX3_compare 88 = .ok (.iinc 4 1, 3) := by decide +kernel
theorem dX3_compare_91 : decode cX3_compare 91 = .ok (.goto (-86), 3) := by decide +kernel
theorem dX3_compare_94 : decode cX3_compare 94 = .ok (.iload_n 3, 1) := by decide +kernel
theorem dX3_compare_95 : decode cX3_compare 95 = .ok (.iload_n 1, 1) := by decide +kernel
theorem dX3_compare_96 : decode cX3_compare 96 = .ok (.if_icmp .ge 8, 3) := by decide +kernel
theorem dX3_compare_99 : decode cX3_compare 99 = .ok (.bipush 99, 2) := by decide +kernel
theorem dX3_compare_101 : decode cX3_compare 101 = .ok (.goto 4, 3) := by decide +kernel
theorem dX3_compare_104 : decode cX3_compare 104 = .ok (.iconst 0, 1) := by decide +kernel
theorem dX3_compare_105 : decode cX3_compare 105 = .ok (.ireturn, 1) := by decide +kernel
theorem dX4_init_0 : decode cX4_init 0 = .ok (.aload_n 0, 1) := by decide +kernel
theorem dX4_init_1 : decode cX4_init 1 = .ok (.invokespecial 3, 3) := by decide +kernel
theorem dX4_init_4 : decode cX4_init 4 = .ok (.aload_n 0, 1) := by decide +kernel
theorem dX4_init_5 : decode cX4_init 5 = .ok (.iload_n 1, 1) := by decide +kernel
theorem dX4_init_6 : decode cX4_init 6 = .ok (.putfield 9, 3) := by decide +kernel
theorem dX4_init_9 : decode cX4_init 9 = .ok (.aload_n 0, 1) := by decide +kernel
theorem dX4_init_10 : decode cX4_init 10 = .ok (.iload_n 2, 1) := by decide +kernel
theorem dX4_init_11 : decode cX4_init 11 = .ok (.putfield 15, 3) := by decide +kernel
theorem dX4_init_14 : decode cX4_init 14 = .ok (.aload_n 0, 1) := by decide +kernel
theorem dX4_init_15 : decode cX4_init 15 = .ok (.bipush 40, 2) := by decide +kernel
theorem dX4_init_17 : decode cX4_init 17 = .ok (.newarray .int, 2) := by decide +kernel
theorem dX4_init_19 : decode cX4_init 19 = .ok (.putfield 18, 3) := by decide +kernel
theorem dX4_init_22 : decode cX4_init 22 = .ok (.aload_n 0, 1) := by decide +kernel
theorem dX4_init_23 : decode cX4_init 23 = .ok (.bipush 40, 2) := by decide +kernel
theorem dX4_init_25 : decode cX4_init 25 = .ok (.newarray .int, 2) := by decide +kernel
theorem dX4_init_27 : decode cX4_init 27 = .ok (.putfield 22, 3) := by decide +kernel
theorem dX4_init_30 : decode cX4_init 30 = .ok (.aload_n 0, 1) := by decide +kernel
theorem dX4_init_31 : decode cX4_init 31 = .ok (.iconst 1, 1) := by decide +kernel
theorem dX4_init_32 : decode cX4_init 32 = .ok (.putfield 25, 3) := by decide +kernel
theorem dX4_init_35 : decode cX4_init 35 = .ok (.aload_n 0, 1) := by decide +kernel
theorem dX4_init_36 : decode cX4_init 36 = .ok (.bipush 40, 2) := by decide +kernel
theorem dX4_init_38 : decode cX4_init 38 = .ok (.newarray .int, 2) := by decide +kernel
theorem dX4_init_40 : decode cX4_init 40 = .ok (.putfield 29, 3) := by decide +kernel
theorem dX4_init_43 : decode cX4_init 43 = .ok (.aload_n 0, 1) := by decide +kernel
theorem dX4_init_44 : decode cX4_init 44 = .ok (.bipush 40, 2) := by decide +kernel
theorem dX4_init_46 : decode cX4_init 46 = .ok (.newarray .int, 2) := by decide +kernel
theorem dX4_init_48 : decode cX4_init 48 = .ok (.putfield 32, 3) := by decide +kernel
theorem dX4_init_51 : decode cX4_init 51 = .ok (.aload_n 0, 1) := by decide +kernel
theorem dX4_init_52 : decode cX4_init 52 = .ok (.iconst 0, 1) := by decide +kernel
theorem dX4_init_53 : decode cX4_init 53 = .ok (.putfield 35, 3) := by decide +kernel
theorem dX4_init_56 : decode cX4_init 56 = .ok (.return_, 1) := by decide +kernel
theorem dX4_isOf_0 : decode cX4_isOf 0 = .ok (.iload_n 1, 1) := by decide +kernel
theorem dX4_isOf_1 : decode cX4_isOf 1 = .ok (.ifCond .eq 11, 3) := by decide +kernel
theorem dX4_isOf_4 : decode cX4_isOf 4 = .ok (.iload_n 1, 1) := by decide +kernel
theorem dX4_isOf_5 : decode cX4_isOf 5 = .ok (.aload_n 0, 1) := by decide +kernel
theorem dX4_isOf_6 : decode cX4_isOf 6 = .ok (.getfield 9, 3) := by decide +kernel
theorem dX4_isOf_9 : decode cX4_isOf 9 = .ok (.if_icmp .ne 7, 3) := by decide +kernel
theorem dX4_isOf_12 : decode cX4_isOf 12 = .ok (.iconst 1, 1) := by decide +kernel
theorem dX4_isOf_13 : decode cX4_isOf 13 = .ok (.goto 4, 3) := by decide +kernel
theorem dX4_isOf_16 : decode cX4_isOf 16 = .ok (.iconst 0, 1) := by decide +kernel
theorem dX4_isOf_17 : decode cX4_isOf 17 = .ok (.ireturn, 1) := by decide +kernel
theorem dX4_needOf_0 : decode cX4_needOf 0 = .ok (.aload_n 0, 1) := by decide +kernel
theorem dX4_needOf_1 : decode cX4_needOf 1 = .ok (.getfield 9, 3) := by decide +kernel
theorem dX4_needOf_4 : decode cX4_needOf 4 = .ok (.iconst 1, 1) := by decide +kernel
theorem dX4_needOf_5 : decode cX4_needOf 5 = .ok (.if_icmp .ne 9, 3) := by decide +kernel
theorem dX4_needOf_8 : decode cX4_needOf 8 = .ok (.iload_n 1, 1) := by decide +kernel
theorem dX4_needOf_9 : decode cX4_needOf 9 = .ok (.iconst 2, 1) := by decide +kernel
theorem dX4_needOf_10 : decode cX4_needOf 10 = .ok (.idiv, 1) := by decide +kernel
theorem dX4_needOf_11 : decode cX4_needOf 11 = .ok (.goto 4, 3) := by decide +kernel
theorem dX4_needOf_14 : decode cX4_needOf 14 = .ok (.iload_n 1, 1) := by decide +kernel
theorem dX4_needOf_15 : decode cX4_needOf 15 = .ok (.ireturn, 1) := by decide +kernel
theorem dX4_markOf_0 : decode cX4_markOf 0 = .ok (.aload_n 1, 1) := by decide +kernel
theorem dX4_markOf_1 : decode cX4_markOf 1 = .ok (.iload_n 2, 1) := by decide +kernel
theorem dX4_markOf_2 : decode cX4_markOf 2 = .ok (.invokevirtual 38, 3) := by decide +kernel
theorem dX4_markOf_5 : decode cX4_markOf 5 = .ok (.ifCond .ne 5, 3) := by decide +kernel
theorem dX4_markOf_8 : decode cX4_markOf 8 = .ok (.iconst (-1), 1) := by decide +kernel
theorem dX4_markOf_9 : decode cX4_markOf 9 = .ok (.ireturn, 1) := by decide +kernel
theorem dX4_markOf_10 : decode cX4_markOf 10 = .ok (.aload_n 0, 1) := by decide +kernel
theorem dX4_markOf_11 : decode cX4_markOf 11 = .ok (.getfield 18, 3) := by decide +kernel
theorem dX4_markOf_14 : decode cX4_markOf 14 = .ok (.iload_n 2, 1) := by decide +kernel
theorem dX4_markOf_15 : decode cX4_markOf 15 = .ok (.iaload, 1) := by decide +kernel
theorem dX4_markOf_16 : decode cX4_markOf 16 = .ok (.bipush 16, 2) := by decide +kernel
theorem dX4_markOf_18 : decode cX4_markOf 18 = .ok (.imul, 1) := by decide +kernel
theorem dX4_markOf_19 : decode cX4_markOf 19 = .ok (.aload_n 0, 1) := by decide +kernel
theorem dX4_markOf_20 : decode cX4_markOf 20 = .ok (.getfield 22, 3) := by decide +kernel
theorem dX4_markOf_23 : decode cX4_markOf 23 = .ok (.iload_n 2, 1) := by decide +kernel
theorem dX4_markOf_24 : decode cX4_markOf 24 = .ok (.iaload, 1) := by decide +kernel
theorem dX4_markOf_25 : decode cX4_markOf 25 = .ok (.iadd, 1) := by decide +kernel
theorem dX4_markOf_26 : decode cX4_markOf 26 = .ok (.iconst 4, 1) := by decide +kernel
theorem dX4_markOf_27 : decode cX4_markOf 27 = .ok (.imul, 1) := by decide +kernel
theorem dX4_markOf_28 : decode cX4_markOf 28 = .ok (.aload_n 1, 1) := by decide +kernel
theorem dX4_markOf_29 : decode cX4_markOf 29 = .ok (.getfield 44, 3) := by decide +kernel
theorem dX4_markOf_32 : decode cX4_markOf 32 = .ok (.iload_n 2, 1) := by decide +kernel
theorem dX4_markOf_33 : decode cX4_markOf 33 = .ok (.iaload, 1) := by decide +kernel
theorem dX4_markOf_34 : decode cX4_markOf 34 = .ok (.iconst 3, 1) := by decide +kernel
theorem dX4_markOf_35 : decode cX4_markOf 35 = .ok (.iand, 1) := by decide +kernel
theorem dX4_markOf_36 : decode cX4_markOf 36 = .ok (.iadd, 1) := by decide +kernel
theorem dX4_markOf_37 : decode cX4_markOf 37 = .ok (.ireturn, 1) := by decide +kernel
theorem dX4_keepLaid_0 : decode cX4_keepLaid 0 = .ok (.aload_n 0, 1) := by decide +kernel
theorem dX4_keepLaid_1 : decode cX4_keepLaid 1 = .ok (.aload_n 2, 1) := by decide +kernel
theorem dX4_keepLaid_2 : decode cX4_keepLaid 2 = .ok (.invokevirtual 47, 3) := by decide +kernel
theorem dX4_keepLaid_5 : decode cX4_keepLaid 5 = .ok (.putfield 35, 3) := by decide +kernel
theorem dX4_keepLaid_8 : decode cX4_keepLaid 8 = .ok (.iconst 0, 1) := by decide +kernel
theorem dX4_keepLaid_9 : decode cX4_keepLaid 9 = .ok (.istore_n 3, 1) := by decide +kernel
theorem dX4_keepLaid_10 : decode cX4_keepLaid 10 = .ok (.iload_n 3, 1) := by decide +kernel
theorem dX4_keepLaid_11 : decode cX4_keepLaid 11 = .ok (.aload_n 0, 1) := by decide +kernel
theorem dX4_keepLaid_12 : decode cX4_keepLaid 12 = .ok (.getfield 35, 3) := by decide +kernel
theorem dX4_keepLaid_15 : decode cX4_keepLaid 15 = .ok (.if_icmp .ge 20, 3) := by decide +kernel
theorem dX4_keepLaid_18 : decode cX4_keepLaid 18 = .ok (.aload_n 0, 1) := by decide +kernel
theorem dX4_keepLaid_19 : decode cX4_keepLaid 19 = .ok (.getfield 29, 3) := by decide +kernel
theorem dX4_keepLaid_22 : decode cX4_keepLaid 22 = .ok (.iload_n 3, 1) := by decide +kernel
theorem dX4_keepLaid_23 : decode cX4_keepLaid 23 = .ok (.aload_n 2, 1) := by decide +kernel
theorem dX4_keepLaid_24 : decode cX4_keepLaid 24 = .ok (.iload_n 3, 1) := by decide +kernel
theorem dX4_keepLaid_25 : decode cX4_keepLaid 25 = .ok (.invokevirtual 53, 3) := by decide +kernel
theorem dX4_keepLaid_28 : decode cX4_keepLaid 28 = .ok (.iastore, 1) := by decide +kernel
theorem dX4_keepLaid_29 : decode cX4_keepLaid 29 = .ok (.iinc 3 1, 3) := by decide +kernel
theorem dX4_keepLaid_32 : decode cX4_keepLaid 32 = .ok (.goto (-22), 3) := by decide +kernel
theorem dX4_keepLaid_35 : decode cX4_keepLaid 35 = .ok (.iconst 0, 1) := by decide +kernel
theorem dX4_keepLaid_36 : decode cX4_keepLaid 36 = .ok (.istore_n 3, 1) := by decide +kernel
theorem dX4_keepLaid_37 : decode cX4_keepLaid 37 = .ok (.iload_n 3, 1) := by decide +kernel
theorem dX4_keepLaid_38 : decode cX4_keepLaid 38 = .ok (.bipush 40, 2) := by decide +kernel
theorem dX4_keepLaid_40 : decode cX4_keepLaid 40 = .ok (.if_icmp .ge 21, 3) := by decide +kernel
theorem dX4_keepLaid_43 : decode cX4_keepLaid 43 = .ok (.aload_n 0, 1) := by decide +kernel
theorem dX4_keepLaid_44 : decode cX4_keepLaid 44 = .ok (.getfield 32, 3) := by decide +kernel
theorem dX4_keepLaid_47 : decode cX4_keepLaid 47 = .ok (.iload_n 3, 1) := by decide +kernel
theorem dX4_keepLaid_48 : decode cX4_keepLaid 48 = .ok (.aload_n 0, 1) := by decide +kernel
theorem dX4_keepLaid_49 : decode cX4_keepLaid 49 = .ok (.aload_n 1, 1) := by decide +kernel
theorem dX4_keepLaid_50 : decode cX4_keepLaid 50 = .ok (.iload_n 3, 1) := by decide +kernel
theorem dX4_keepLaid_51 : decode cX4_keepLaid 51 = .ok (.invokevirtual 57, 3) := by decide +kernel
theorem dX4_keepLaid_54 : decode cX4_keepLaid 54 = .ok (.iastore, 1) := by decide +kernel
theorem dX4_keepLaid_55 : decode cX4_keepLaid 55 = .ok (.iinc 3 1, 3) := by decide +kernel
theorem dX4_keepLaid_58 : decode cX4_keepLaid 58 = .ok (.goto (-21), 3) := by decide +kernel
theorem dX4_keepLaid_61 : decode cX4_keepLaid 61 = .ok (.return_, 1) := by decide +kernel
theorem dX4_stalePages_0 : decode cX4_stalePages 0 = .ok (.iconst 0, 1) := by decide +kernel
theorem dX4_stalePages_1 : decode cX4_stalePages 1 = .ok (.istore_n 2, 1) := by decide +kernel
theorem dX4_stalePages_2 : decode cX4_stalePages 2 = .ok (.iconst 0, 1) := by decide +kernel
theorem dX4_stalePages_3 : decode cX4_stalePages 3 = .ok (.istore_n 3, 1) := by decide +kernel
theorem dX4_stalePages_4 : decode cX4_stalePages 4 = .ok (.iconst (-1), 1) := by decide +kernel
theorem dX4_stalePages_5 : decode cX4_stalePages 5 = .ok (.istore 4, 2) := by decide +kernel
theorem dX4_stalePages_7 : decode cX4_stalePages 7 = .ok (.iconst 0, 1) := by decide +kernel
theorem dX4_stalePages_8 : decode cX4_stalePages 8 = .ok (.istore 5, 2) := by decide +kernel
theorem dX4_stalePages_10 : decode cX4_stalePages 10 = .ok (.iload 5, 2) := by decide +kernel
theorem dX4_stalePages_12 : decode cX4_stalePages 12 = .ok (.bipush 40, 2) := by decide +kernel
theorem dX4_stalePages_14 : decode cX4_stalePages 14 = .ok (.if_icmp .ge 64, 3) := by decide +kernel
theorem dX4_stalePages_17 : decode cX4_stalePages 17 = .ok (.iload_n 3, 1) := by decide +kernel
theorem dX4_stalePages_18 : decode cX4_stalePages 18 = .ok (.iconst 1, 1) := by decide +kernel
theorem dX4_stalePages_19 : decode cX4_stalePages 19 = .ok (.iadd, 1) := by decide +kernel
theorem dX4_stalePages_20 : decode cX4_stalePages 20 = .ok (.aload_n 0, 1) := by decide +kernel
theorem dX4_stalePages_21 : decode cX4_stalePages 21 = .ok (.getfield 35, 3) := by decide +kernel
theorem dX4_stalePages_24 : decode cX4_stalePages 24 = .ok (.if_icmp .ge 19, 3) := by decide +kernel
theorem dX4_stalePages_27 : decode cX4_stalePages 27 = .ok (.aload_n 0, 1) := by decide +kernel
theorem dX4_stalePages_28 : decode cX4_stalePages 28 = .ok (.getfield 29, 3) := by decide +kernel
theorem dX4_stalePages_31 : decode cX4_stalePages 31 = .ok (.iload_n 3, 1) := by decide +kernel
theorem dX4_stalePages_32 : decode cX4_stalePages 32 = .ok (.iconst 1, 1) := by decide +kernel
theorem dX4_stalePages_33 : decode cX4_stalePages 33 = .ok (.iadd, 1) := by decide +kernel
theorem dX4_stalePages_34 : decode cX4_stalePages 34 = .ok (.iaload, 1) := by decide +kernel
theorem dX4_stalePages_35 : decode cX4_stalePages 35 = .ok (.iload 5, 2) := by decide +kernel
theorem dX4_stalePages_37 : decode cX4_stalePages 37 = .ok (.if_icmp .ne 6, 3) := by decide +kernel
theorem dX4_stalePages_40 : decode cX4_stalePages 40 = .ok (.iinc 3 1, 3) := by decide +kernel
theorem dX4_stalePages_43 : decode cX4_stalePages 43 = .ok (.iload 4, 2) := by decide +kernel
theorem dX4_stalePages_45 : decode cX4_stalePages 45 = .ok (.iload_n 3, 1) := by decide +kernel
theorem dX4_stalePages_46 : decode cX4_stalePages 46 = .ok (.if_icmp .eq 26, 3) := by decide +kernel
theorem dX4_stalePages_49 : decode cX4_stalePages 49 = .ok (.aload_n 0, 1) := by decide +kernel
theorem dX4_stalePages_50 : decode cX4_stalePages 50 = .ok (.getfield 32, 3) := by decide +kernel
theorem dX4_stalePages_53 : decode cX4_stalePages 53 = .ok (.iload 5, 2) := by decide +kernel
theorem dX4_stalePages_55 : decode cX4_stalePages 55 = .ok (.iaload, 1) := by decide +kernel
theorem dX4_stalePages_56 : decode cX4_stalePages 56 = .ok (.aload_n 0, 1) := by decide +kernel
theorem dX4_stalePages_57 : decode cX4_stalePages 57 = .ok (.aload_n 1, 1) := by decide +kernel
theorem dX4_stalePages_58 : decode cX4_stalePages 58 = .ok (.iload 5, 2) := by decide +kernel
theorem dX4_stalePages_60 : decode cX4_stalePages 60 = .ok (.invokevirtual 57, 3) := by decide +kernel
theorem dX4_stalePages_63 : decode cX4_stalePages 63 = .ok (.if_icmp .eq 9, 3) := by decide +kernel
theorem dX4_stalePages_66 : decode cX4_stalePages 66 = .ok (.iload_n 3, 1) := by decide +kernel
theorem dX4_stalePages_67 : decode cX4_stalePages 67 = .ok (.istore 4, 2) := by decide +kernel
theorem dX4_stalePages_69 : decode cX4_stalePages 69 = .ok (.iinc 2 1, 3) := by decide +kernel
theorem dX4_stalePages_72 : decode cX4_stalePages 72 = .ok (.iinc 5 1, 3) := by decide +kernel
theorem dX4_stalePages_75 : decode cX4_stalePages 75 = .ok (.goto (-65), 3) := by decide +kernel
theorem dX4_stalePages_78 : decode cX4_stalePages 78 = .ok (.iload_n 2, 1) := by decide +kernel
theorem dX4_stalePages_79 : decode cX4_stalePages 79 = .ok (.ireturn, 1) := by decide +kernel
theorem dX5_init_0 : decode cX5_init 0 = .ok (.aload_n 0, 1) := by decide +kernel
theorem dX5_init_1 : decode cX5_init 1 = .ok (.invokespecial 3, 3) := by decide +kernel
theorem dX5_init_4 : decode cX5_init 4 = .ok (.aload_n 0, 1) := by decide +kernel
theorem dX5_init_5 : decode cX5_init 5 = .ok (.new 9, 3) := by decide +kernel
theorem dX5_init_8 : decode cX5_init 8 = .ok (.dup, 1) := by decide +kernel
theorem dX5_init_9 : decode cX5_init 9 = .ok (.invokespecial 11, 3) := by decide +kernel
theorem dX5_init_12 : decode cX5_init 12 = .ok (.putfield 12, 3) := by decide +kernel
theorem dX5_init_15 : decode cX5_init 15 = .ok (.aload_n 0, 1) := by decide +kernel
theorem dX5_init_16 : decode cX5_init 16 = .ok (.new 16, 3) := by decide +kernel
theorem dX5_init_19 : decode cX5_init 19 = .ok (.dup, 1) := by decide +kernel
theorem dX5_init_20 : decode cX5_init 20 = .ok (.aload_n 0, 1) := by decide +kernel
theorem dX5_init_21 : decode cX5_init 21 = .ok (.getfield 12, 3) := by decide +kernel
theorem dX5_init_24 : decode cX5_init 24 = .ok (.invokespecial 18, 3) := by decide +kernel
theorem dX5_init_27 : decode cX5_init 27 = .ok (.putfield 21, 3) := by decide +kernel
theorem dX5_init_30 : decode cX5_init 30 = .ok (.aload_n 0, 1) := by decide +kernel
theorem dX5_init_31 : decode cX5_init 31 = .ok (.new 25, 3) := by decide +kernel
theorem dX5_init_34 : decode cX5_init 34 = .ok (.dup, 1) := by decide +kernel
theorem dX5_init_35 : decode cX5_init 35 = .ok (.aload_n 0, 1) := by decide +kernel
theorem dX5_init_36 : decode cX5_init 36 = .ok (.getfield 21, 3) := by decide +kernel
theorem dX5_init_39 : decode cX5_init 39 = .ok (.invokespecial 27, 3) := by decide +kernel
theorem dX5_init_42 : decode cX5_init 42 = .ok (.putfield 30, 3) := by decide +kernel
theorem dX5_init_45 : decode cX5_init 45 = .ok (.aload_n 0, 1) := by decide +kernel
theorem dX5_init_46 : decode cX5_init 46 = .ok (.new 34, 3) := by decide +kernel
theorem dX5_init_49 : decode cX5_init 49 = .ok (.dup, 1) := by decide +kernel
theorem dX5_init_50 : decode cX5_init 50 = .ok (.invokespecial 36, 3) := by decide +kernel
theorem dX5_init_53 : decode cX5_init 53 = .ok (.putfield 37, 3) := by decide +kernel
theorem dX5_init_56 : decode cX5_init 56 = .ok (.aload_n 0, 1) := by decide +kernel
theorem dX5_init_57 : decode cX5_init 57 = .ok (.bipush 6, 2) := by decide +kernel
theorem dX5_init_59 : decode cX5_init 59 = .ok (.newarray .int, 2) := by decide +kernel
theorem dX5_init_61 : decode cX5_init 61 = .ok (.putfield 41, 3) := by decide +kernel
theorem dX5_init_64 : decode cX5_init 64 = .ok (.aload_n 0, 1) := by decide +kernel
theorem dX5_init_65 : decode cX5_init 65 = .ok (.iconst 0, 1) := by decide +kernel
theorem dX5_init_66 : decode cX5_init 66 = .ok (.putfield 45, 3) := by decide +kernel
theorem dX5_init_69 : decode cX5_init 69 = .ok (.aload_n 0, 1) := by decide +kernel
theorem dX5_init_70 : decode cX5_init 70 = .ok (.bipush 8, 2) := by decide +kernel
theorem dX5_init_72 : decode cX5_init 72 = .ok (.putfield 49, 3) := by decide +kernel
theorem dX5_init_75 : decode cX5_init 75 = .ok (.aload_n 0, 1) := by decide +kernel
theorem dX5_init_76 : decode cX5_init 76 = .ok (.bipush 40, 2) := by decide +kernel
theorem dX5_init_78 : decode cX5_init 78 = .ok (.putfield 52, 3) := by decide +kernel
theorem dX5_init_81 : decode cX5_init 81 = .ok (.aload_n 0, 1) := by decide +kernel
theorem dX5_init_82 : decode cX5_init 82 = .ok (.iconst 4, 1) := by decide +kernel
theorem dX5_init_83 : decode cX5_init 83 = .ok (.putfield 55, 3) := by decide +kernel
theorem dX5_init_86 : decode cX5_init 86 = .ok (.aload_n 0, 1) := by decide +kernel
theorem dX5_init_87 : decode cX5_init 87 = .ok (.iconst 5, 1) := by decide +kernel
theorem dX5_init_88 : decode cX5_init 88 = .ok (.putfield 58, 3) := by decide +kernel
theorem dX5_init_91 : decode cX5_init 91 = .ok (.return_, 1) := by decide +kernel
theorem dX5_bar_0 : decode cX5_bar 0 = .ok (.iload_n 1, 1) := by decide +kernel
theorem dX5_bar_1 : decode cX5_bar 1 = .ok (.iconst 1, 1) := by decide +kernel
theorem dX5_bar_2 : decode cX5_bar 2 = .ok (.bipush 60, 2) := by decide +kernel
theorem dX5_bar_4 : decode cX5_bar 4 = .ok (.invokestatic 61, 3) := by decide +kernel
theorem dX5_bar_7 : decode cX5_bar 7 = .ok (.ifCond .ne 10, 3) := by decide +kernel
theorem dX5_bar_10 : decode cX5_bar 10 = .ok (.aload_n 0, 1) := by decide +kernel
theorem dX5_bar_11 : decode cX5_bar 11 = .ok (.ldc 65, 2) := by decide +kernel
theorem dX5_bar_13 : decode cX5_bar 13 = .ok (.invokevirtual 66, 3) := by decide +kernel
theorem dX5_bar_16 : decode cX5_bar 16 = .ok (.ireturn, 1) := by decide +kernel
theorem dX5_bar_17 : decode cX5_bar 17 = .ok (.aload_n 0, 1) := by decide +kernel
theorem dX5_bar_18 : decode cX5_bar 18 = .ok (.aload_n 0, 1) := by decide +kernel
theorem dX5_bar_19 : decode cX5_bar 19 = .ok (.getfield 12, 3) := by decide +kernel
theorem dX5_bar_22 : decode cX5_bar 22 = .ok (.iload_n 1, 1) := by decide +kernel
theorem dX5_bar_23 : decode cX5_bar 23 = .ok (.invokevirtual 70, 3) := by decide +kernel
theorem dX5_bar_26 : decode cX5_bar 26 = .ok (.invokevirtual 66, 3) := by decide +kernel
theorem dX5_bar_29 : decode cX5_bar 29 = .ok (.ireturn, 1) := by decide +kernel
theorem dX5_voice_0 : decode cX5_voice 0 = .ok (.iload_n 1, 1) := by decide +kernel
theorem dX5_voice_1 : decode cX5_voice 1 = .ok (.iconst 2, 1) := by decide +kernel
theorem dX5_voice_2 : decode cX5_voice 2 = .ok (.if_icmp .ne 8, 3) := by decide +kernel
theorem dX5_voice_5 : decode cX5_voice 5 = .ok (.bipush 11, 2) := by decide +kernel
theorem dX5_voice_7 : decode cX5_voice 7 = .ok (.goto 4, 3) := by decide +kernel
theorem dX5_voice_10 : decode cX5_voice 10 = .ok (.iconst 0, 1) := by decide +kernel
theorem dX5_voice_11 : decode cX5_voice 11 = .ok (.istore_n 3, 1) := by decide +kernel
theorem dX5_voice_12 : decode cX5_voice 12 = .ok (.iload_n 1, 1) := by decide +kernel
theorem dX5_voice_13 : decode cX5_voice 13 = .ok (.iconst 0, 1) := by decide +kernel
theorem dX5_voice_14 : decode cX5_voice 14 = .ok (.iconst 2, 1) := by decide +kernel
theorem dX5_voice_15 : decode cX5_voice 15 = .ok (.invokestatic 61, 3) := by decide +kernel
theorem dX5_voice_18 : decode cX5_voice 18 = .ok (.ifCond .eq 13, 3) := by decide +kernel
theorem dX5_voice_21 : decode cX5_voice 21 = .ok (.iload_n 2, 1) := by decide +kernel
theorem dX5_voice_22 : decode cX5_voice 22 = .ok (.iload_n 3, 1) := by decide +kernel
theorem dX5_voice_23 : decode cX5_voice 23 = .ok (.ineg, 1) := by decide +kernel
theorem dX5_voice_24 : decode cX5_voice 24 = .ok (.iload_n 3, 1) := by decide +kernel
theorem dX5_voice_25 : decode cX5_voice 25 = .ok (.invokestatic 61, 3) := by decide +kernel
theorem dX5_voice_28 : decode cX5_voice 28 = .ok (.ifCond .ne 10, 3) := by decide +kernel
theorem dX5_voice_31 : decode cX5_voice 31 = .ok (.aload_n 0, 1) := by decide +kernel
theorem dX5_voice_32 : decode cX5_voice 32 = .ok (.ldc 65, 2) := by decide +kernel
theorem dX5_voice_34 : decode cX5_voice 34 = .ok (.invokevirtual 66, 3) := by decide +kernel
theorem dX5_voice_37 : decode cX5_voice 37 = .ok (.ireturn, 1) := by decide +kernel
theorem dX5_voice_38 : decode cX5_voice 38 = .ok (.aload_n 0, 1) := by decide +kernel
theorem dX5_voice_39 : decode cX5_voice 39 = .ok (.aload_n 0, 1) := by decide +kernel
theorem dX5_voice_40 : decode cX5_voice 40 = .ok (.getfield 12, 3) := by decide +kernel
theorem dX5_voice_43 : decode cX5_voice 43 = .ok (.iload_n 1, 1) := by decide +kernel
theorem dX5_voice_44 : decode cX5_voice 44 = .ok (.iload_n 2, 1) := by decide +kernel
theorem dX5_voice_45 : decode cX5_voice 45 = .ok (.invokevirtual 73, 3) := by decide +kernel
theorem dX5_voice_48 : decode cX5_voice 48 = .ok (.invokevirtual 66, 3) := by decide +kernel
theorem dX5_voice_51 : decode cX5_voice 51 = .ok (.ireturn, 1) := by decide +kernel
theorem dX5_as_0 : decode cX5_as 0 = .ok (.aload_n 0, 1) := by decide +kernel
theorem dX5_as_1 : decode cX5_as 1 = .ok (.getfield 12, 3) := by decide +kernel
theorem dX5_as_4 : decode cX5_as 4 = .ok (.iload_n 1, 1) := by decide +kernel
theorem dX5_as_5 : decode cX5_as 5 = .ok (.invokevirtual 77, 3) := by decide +kernel
theorem dX5_as_8 : decode cX5_as 8 = .ok (.astore_n 3, 1) := by decide +kernel
theorem dX5_as_9 : decode cX5_as 9 = .ok (.aload_n 3, 1) := by decide +kernel
theorem dX5_as_10 : decode cX5_as 10 = .ok (.ifnull 12, 3) := by decide +kernel
theorem dX5_as_13 : decode cX5_as 13 = .ok (.iload_n 2, 1) := by decide +kernel
theorem dX5_as_14 : decode cX5_as 14 = .ok (.iconst 0, 1) := by decide +kernel
theorem dX5_as_15 : decode cX5_as 15 = .ok (.iconst 2, 1) := by decide +kernel
theorem dX5_as_16 : decode cX5_as 16 = .ok (.invokestatic 61, 3) := by decide +kernel
theorem dX5_as_19 : decode cX5_as 19 = .ok (.ifCond .ne 10, 3) := by decide +kernel
theorem dX5_as_22 : decode cX5_as 22 = .ok (.aload_n 0, 1) := by decide +kernel
theorem dX5_as_23 : decode cX5_as 23 = .ok (.ldc 65, 2) := by decide +kernel
theorem dX5_as_25 : decode cX5_as 25 = .ok (.invokevirtual 66, 3) := by decide +kernel
theorem dX5_as_28 : decode cX5_as 28 = .ok (.ireturn, 1) := by decide +kernel
theorem dX5_as_29 : decode cX5_as 29 = .ok (.aload_n 0, 1) := by decide +kernel
theorem dX5_as_30 : decode cX5_as 30 = .ok (.aload_n 3, 1) := by decide +kernel
theorem dX5_as_31 : decode cX5_as 31 = .ok (.iload_n 2, 1) := by decide +kernel
theorem dX5_as_32 : decode cX5_as 32 = .ok (.invokevirtual 81, 3) := by decide +kernel
theorem dX5_as_35 : decode cX5_as 35 = .ok (.ifCond .eq 10, 3) := by decide +kernel
theorem dX5_as_38 : decode cX5_as 38 = .ok (.aload_n 3, 1) := by decide +kernel
theorem dX5_as_39 : decode cX5_as 39 = .ok (.getfield 87, 3) := by decide +kernel
theorem dX5_as_42 : decode cX5_as 42 = .ok (.goto 5, 3) := by decide +kernel
theorem dX5_as_45 : decode cX5_as 45 = .ok (.ldc 90, 2) := by decide +kernel
theorem dX5_as_47 : decode cX5_as 47 = .ok (.invokevirtual 66, 3) := by decide +kernel
theorem dX5_as_50 : decode cX5_as 50 = .ok (.ireturn, 1) := by decide +kernel
theorem dX5_notes_0 : decode cX5_notes 0 = .ok (.aload_n 0, 1) := by decide +kernel
theorem dX5_notes_1 : decode cX5_notes 1 = .ok (.getfield 12, 3) := by decide +kernel
theorem dX5_notes_4 : decode cX5_notes 4 = .ok (.iload_n 1, 1) := by decide +kernel
theorem dX5_notes_5 : decode cX5_notes 5 = .ok (.invokevirtual 77, 3) := by decide +kernel
theorem dX5_notes_8 : decode cX5_notes 8 = .ok (.astore 5, 2) := by decide +kernel
theorem dX5_notes_10 : decode cX5_notes 10 = .ok (.aload 5, 2) := by decide +kernel
theorem dX5_notes_12 : decode cX5_notes 12 = .ok (.ifnull 24, 3) := by decide +kernel
theorem dX5_notes_15 : decode cX5_notes 15 = .ok (.aload_n 0, 1) := by decide +kernel
theorem dX5_notes_16 : decode cX5_notes 16 = .ok (.getfield 12, 3) := by decide +kernel
theorem dX5_notes_19 : decode cX5_notes 19 = .ok (.iload_n 2, 1) := by decide +kernel
theorem dX5_notes_20 : decode cX5_notes 20 = .ok (.invokevirtual 91, 3) := by decide +kernel
theorem dX5_notes_23 : decode cX5_notes 23 = .ok (.ifCond .eq 13, 3) := by decide +kernel
theorem dX5_notes_26 : decode cX5_notes 26 = .ok (.iload_n 3, 1) := by decide +kernel
theorem dX5_notes_27 : decode cX5_notes 27 = .ok (.iconst 0, 1) := by decide +kernel
theorem dX5_notes_28 : decode cX5_notes 28 = .ok (.bipush 16, 2) := by decide +kernel
theorem dX5_notes_30 : decode cX5_notes 30 = .ok (.invokestatic 61, 3) := by decide +kernel
theorem dX5_notes_33 : decode cX5_notes 33 = .ok (.ifCond .ne 10, 3) := by decide +kernel
theorem dX5_notes_36 : decode cX5_notes 36 = .ok (.aload_n 0, 1) := by decide +kernel
theorem dX5_notes_37 : decode cX5_notes 37 = .ok (.ldc 65, 2) := by decide +kernel
theorem dX5_notes_39 : decode cX5_notes 39 = .ok (.invokevirtual 66, 3) := by decide +kernel
theorem dX5_notes_42 : decode cX5_notes 42 = .ok (.ireturn, 1) := by decide +kernel
theorem dX5_notes_43 : decode cX5_notes 43 = .ok (.iload 4, 2) := by decide +kernel
theorem dX5_notes_45 : decode cX5_notes 45 = .ok (.iconst 0, 1) := by decide +kernel
theorem dX5_notes_46 : decode cX5_notes 46 = .ok (.iload_n 3, 1) := by decide +kernel
theorem dX5_notes_47 : decode cX5_notes 47 = .ok (.ifCond .ne 7, 3) := by decide +kernel
theorem dX5_notes_50 : decode cX5_notes 50 = .ok (.iconst 0, 1) := by decide +kernel
theorem dX5_notes_51 : decode cX5_notes 51 = .ok (.goto 5, 3) := by decide +kernel
theorem dX5_notes_54 : decode cX5_notes 54 = .ok (.bipush 9, 2) := by decide +kernel
theorem dX5_notes_56 : decode cX5_notes 56 = .ok (.invokestatic 61, 3) := by decide +kernel
theorem dX5_notes_59 : decode cX5_notes 59 = .ok (.ifCond .ne 10, 3) := by decide +kernel
theorem dX5_notes_62 : decode cX5_notes 62 = .ok (.aload_n 0, 1) := by decide +kernel
theorem dX5_notes_63 : decode cX5_notes 63 = .ok (.ldc 65, 2) := by decide +kernel
theorem dX5_notes_65 : decode cX5_notes 65 = .ok (.invokevirtual 66, 3) := by decide +kernel
theorem dX5_notes_68 : decode cX5_notes 68 = .ok (.ireturn, 1) := by decide +kernel
theorem dX5_notes_69 : decode cX5_notes 69 = .ok (.aload 5, 2) := by decide +kernel
theorem dX5_notes_71 : decode cX5_notes 71 = .ok (.getfield 94, 3) := by decide +kernel
theorem dX5_notes_74 : decode cX5_notes 74 = .ok (.iload_n 2, 1) := by decide +kernel
theorem dX5_notes_75 : decode cX5_notes 75 = .ok (.iaload, 1) := by decide +kernel
theorem dX5_notes_76 : decode cX5_notes 76 = .ok (.istore 6, 2) := by decide +kernel
theorem dX5_notes_78 : decode cX5_notes 78 = .ok (.aload 5, 2) := by decide +kernel
theorem dX5_notes_80 : decode cX5_notes 80 = .ok (.getfield 94, 3) := by decide +kernel
theorem dX5_notes_83 : decode cX5_notes 83 = .ok (.iload_n 2, 1) := by decide +kernel
theorem dX5_notes_84 : decode cX5_notes 84 = .ok (.iload_n 3, 1) := by decide +kernel
theorem dX5_notes_85 : decode cX5_notes 85 = .ok (.iastore, 1) := by decide +kernel
theorem dX5_notes_86 : decode cX5_notes 86 = .ok (.aload 5, 2) := by decide +kernel
theorem dX5_notes_88 : decode cX5_notes 88 = .ok (.getfield 97, 3) := by decide +kernel
theorem dX5_notes_91 : decode cX5_notes 91 = .ok (.iload_n 2, 1) := by decide +kernel
theorem dX5_notes_92 : decode cX5_notes 92 = .ok (.iload 4, 2) := by decide +kernel
theorem dX5_notes_94 : decode cX5_notes 94 = .ok (.iastore, 1) := by decide +kernel
theorem dX5_notes_95 : decode cX5_notes 95 = .ok (.aload_n 0, 1) := by decide +kernel
theorem dX5_notes_96 : decode cX5_notes 96 = .ok (.iload 6, 2) := by decide +kernel
theorem dX5_notes_98 : decode cX5_notes 98 = .ok (.invokevirtual 66, 3) := by decide +kernel
theorem dX5_notes_101 : decode cX5_notes 101 = .ok (.ireturn, 1) := by decide +kernel
theorem dX5_sign_0 : decode cX5_sign 0 = .ok (.aload_n 0, 1) := by decide +kernel
theorem dX5_sign_1 : decode cX5_sign 1 = .ok (.getfield 12, 3) := by decide +kernel
theorem dX5_sign_4 : decode cX5_sign 4 = .ok (.iload_n 1, 1) := by decide +kernel
theorem dX5_sign_5 : decode cX5_sign 5 = .ok (.invokevirtual 91, 3) := by decide +kernel
theorem dX5_sign_8 : decode cX5_sign 8 = .ok (.ifCond .eq 13, 3) := by decide +kernel
theorem dX5_sign_11 : decode cX5_sign 11 = .ok (.iload_n 2, 1) := by decide +kernel
theorem dX5_sign_12 : decode cX5_sign 12 = .ok (.iconst 0, 1) := by decide +kernel
theorem dX5_sign_13 : decode cX5_sign 13 = .ok (.bipush 7, 2) := by decide +kernel
theorem dX5_sign_15 : decode cX5_sign 15 = .ok (.invokestatic 61, 3) := by decide +kernel
theorem dX5_sign_18 : decode cX5_sign 18 = .ok (.ifCond .ne 10, 3) := by decide +kernel
theorem dX5_sign_21 : decode cX5_sign 21 = .ok (.aload_n 0, 1) := by decide +kernel
theorem dX5_sign_22 : decode cX5_sign 22 = .ok (.ldc 65, 2) := by decide +kernel
theorem dX5_sign_24 : decode cX5_sign 24 = .ok (.invokevirtual 66, 3) := by decide +kernel
theorem dX5_sign_27 : decode cX5_sign 27 = .ok (.ireturn, 1) := by decide +kernel
theorem dX5_sign_28 : decode cX5_sign 28 = .ok (.aload_n 0, 1) := by decide +kernel
theorem dX5_sign_29 : decode cX5_sign 29 = .ok (.getfield 12, 3) := by decide +kernel
theorem dX5_sign_32 : decode cX5_sign 32 = .ok (.getfield 100, 3) := by decide +kernel
theorem dX5_sign_35 : decode cX5_sign 35 = .ok (.iload_n 1, 1) := by decide +kernel
theorem dX5_sign_36 : decode cX5_sign 36 = .ok (.iaload, 1) := by decide +kernel
theorem dX5_sign_37 : decode cX5_sign 37 = .ok (.istore_n 3, 1) := by decide +kernel
theorem dX5_sign_38 : decode cX5_sign 38 = .ok (.aload_n 0, 1) := by decide +kernel
theorem dX5_sign_39 : decode cX5_sign 39 = .ok (.getfield 12, 3) := by decide +kernel
theorem dX5_sign_42 : decode cX5_sign 42 = .ok (.getfield 100, 3) := by decide +kernel
theorem dX5_sign_45 : decode cX5_sign 45 = .ok (.iload_n 1, 1) := by decide +kernel
theorem dX5_sign_46 : decode cX5_sign 46 = .ok (.iload_n 2, 1) := by decide +kernel
theorem dX5_sign_47 : decode cX5_sign 47 = .ok (.iastore, 1) := by decide +kernel
theorem dX5_sign_48 : decode cX5_sign 48 = .ok (.aload_n 0, 1) := by decide +kernel
theorem dX5_sign_49 : decode cX5_sign 49 = .ok (.iload_n 3, 1) := by decide +kernel
theorem dX5_sign_50 : decode cX5_sign 50 = .ok (.invokevirtual 66, 3) := by decide +kernel
theorem dX5_sign_53 : decode cX5_sign 53 = .ok (.ireturn, 1) := by decide +kernel
theorem dX5_cut_0 : decode cX5_cut 0 = .ok (.aload_n 0, 1) := by decide +kernel
theorem dX5_cut_1 : decode cX5_cut 1 = .ok (.getfield 12, 3) := by decide +kernel
theorem dX5_cut_4 : decode cX5_cut 4 = .ok (.iload_n 1, 1) := by decide +kernel
theorem dX5_cut_5 : decode cX5_cut 5 = .ok (.invokevirtual 91, 3) := by decide +kernel
theorem dX5_cut_8 : decode cX5_cut 8 = .ok (.ifCond .eq 28, 3) := by decide +kernel
theorem dX5_cut_11 : decode cX5_cut 11 = .ok (.aload_n 0, 1) := by decide +kernel
theorem dX5_cut_12 : decode cX5_cut 12 = .ok (.getfield 12, 3) := by decide +kernel
theorem dX5_cut_15 : decode cX5_cut 15 = .ok (.iload_n 2, 1) := by decide +kernel
theorem dX5_cut_16 : decode cX5_cut 16 = .ok (.invokevirtual 91, 3) := by decide +kernel
theorem dX5_cut_19 : decode cX5_cut 19 = .ok (.ifCond .eq 17, 3) := by decide +kernel
theorem dX5_cut_22 : decode cX5_cut 22 = .ok (.iload_n 1, 1) := by decide +kernel
theorem dX5_cut_23 : decode cX5_cut 23 = .ok (.iload_n 2, 1) := by decide +kernel
theorem dX5_cut_24 : decode cX5_cut 24 = .ok (.if_icmp .gt 12, 3) := by decide +kernel
theorem dX5_cut_27 : decode cX5_cut 27 = .ok (.iload_n 3, 1) := by decide +kernel
theorem dX5_cut_28 : decode cX5_cut 28 = .ok (.iconst 0, 1) := by decide +kernel
theorem dX5_cut_29 : decode cX5_cut 29 = .ok (.iconst 1, 1) := by decide +kernel
theorem dX5_cut_30 : decode cX5_cut 30 = .ok (.invokestatic 61, 3) := by decide +kernel
theorem dX5_cut_33 : decode cX5_cut 33 = .ok (.ifCond .ne 10, 3) := by decide +kernel
theorem dX5_cut_36 : decode cX5_cut 36 = .ok (.aload_n 0, 1) := by decide +kernel
theorem dX5_cut_37 : decode cX5_cut 37 = .ok (.ldc 65, 2) := by decide +kernel
theorem dX5_cut_39 : decode cX5_cut 39 = .ok (.invokevirtual 66, 3) := by decide +kernel
theorem dX5_cut_42 : decode cX5_cut 42 = .ok (.ireturn, 1) := by decide +kernel
theorem dX5_cut_43 : decode cX5_cut 43 = .ok (.aload_n 0, 1) := by decide +kernel
theorem dX5_cut_44 : decode cX5_cut 44 = .ok (.aload_n 0, 1) := by decide +kernel
theorem dX5_cut_45 : decode cX5_cut 45 = .ok (.getfield 12, 3) := by decide +kernel
theorem dX5_cut_48 : decode cX5_cut 48 = .ok (.iload_n 1, 1) := by decide +kernel
theorem dX5_cut_49 : decode cX5_cut 49 = .ok (.iload_n 2, 1) := by decide +kernel
theorem dX5_cut_50 : decode cX5_cut 50 = .ok (.iload_n 3, 1) := by decide +kernel
theorem dX5_cut_51 : decode cX5_cut 51 = .ok (.iconst 1, 1) := by decide +kernel
theorem dX5_cut_52 : decode cX5_cut 52 = .ok (.if_icmp .ne 7, 3) := by decide +kernel
theorem dX5_cut_55 : decode cX5_cut 55 = .ok (.iconst 1, 1) := by decide +kernel
theorem dX5_cut_56 : decode cX5_cut 56 = .ok (.goto 4, 3) := by decide +kernel
theorem dX5_cut_59 : decode cX5_cut 59 = .ok (.iconst 0, 1) := by decide +kernel
theorem dX5_cut_60 : decode cX5_cut 60 = .ok (.invokevirtual 103, 3) := by decide +kernel
theorem dX5_cut_63 : decode cX5_cut 63 = .ok (.invokevirtual 66, 3) := by decide +kernel
theorem dX5_cut_66 : decode cX5_cut 66 = .ok (.ireturn, 1) := by decide +kernel
theorem dX5_stage_0 : decode cX5_stage 0 = .ok (.aload_n 0, 1) := by decide +kernel
theorem dX5_stage_1 : decode cX5_stage 1 = .ok (.getfield 12, 3) := by decide +kernel
theorem dX5_stage_4 : decode cX5_stage 4 = .ok (.iload_n 1, 1) := by decide +kernel
theorem dX5_stage_5 : decode cX5_stage 5 = .ok (.invokevirtual 77, 3) := by decide +kernel
theorem dX5_stage_8 : decode cX5_stage 8 = .ok (.astore_n 3, 1) := by decide +kernel
theorem dX5_stage_9 : decode cX5_stage 9 = .ok (.aload_n 3, 1) := by decide +kernel
theorem dX5_stage_10 : decode cX5_stage 10 = .ok (.ifnull 12, 3) := by decide +kernel
theorem dX5_stage_13 : decode cX5_stage 13 = .ok (.iload_n 2, 1) := by decide +kernel
theorem dX5_stage_14 : decode cX5_stage 14 = .ok (.iconst 0, 1) := by decide +kernel
theorem dX5_stage_15 : decode cX5_stage 15 = .ok (.iconst 1, 1) := by decide +kernel
theorem dX5_stage_16 : decode cX5_stage 16 = .ok (.invokestatic 61, 3) := by decide +kernel
theorem dX5_stage_19 : decode cX5_stage 19 = .ok (.ifCond .ne 10, 3) := by decide +kernel
theorem dX5_stage_22 : decode cX5_stage 22 = .ok (.aload_n 0, 1) := by decide +kernel
theorem dX5_stage_23 : decode cX5_stage 23 = .ok (.ldc 65, 2) := by decide +kernel
theorem dX5_stage_25 : decode cX5_stage 25 = .ok (.invokevirtual 66, 3) := by decide +kernel
theorem dX5_stage_28 : decode cX5_stage 28 = .ok (.ireturn, 1) := by decide +kernel
theorem dX5_stage_29 : decode cX5_stage 29 = .ok (.aload_n 3, 1) := by decide +kernel
theorem dX5_stage_30 : decode cX5_stage 30 = .ok (.getfield 107, 3) := by decide +kernel
theorem dX5_stage_33 : decode cX5_stage 33 = .ok (.ifCond .eq 7, 3) := by decide +kernel
theorem dX5_stage_36 : decode cX5_stage 36 = .ok (.iconst 1, 1) := by decide +kernel
theorem dX5_stage_37 : decode cX5_stage 37 = .ok (.goto 4, 3) := by decide +kernel
theorem dX5_stage_40 : decode cX5_stage 40 = .ok (.iconst 0, 1) := by decide +kernel
theorem dX5_stage_41 : decode cX5_stage 41 = .ok (.istore 4, 2) := by decide +kernel
theorem dX5_stage_43 : decode cX5_stage 43 = .ok (.aload_n 3, 1) := by decide +kernel
theorem dX5_stage_44 : decode cX5_stage 44 = .ok (.iload_n 2, 1) := by decide +kernel
theorem dX5_stage_45 : decode cX5_stage 45 = .ok (.iconst 1, 1) := by decide +kernel
theorem dX5_stage_46 : decode cX5_stage 46 = .ok (.if_icmp .ne 7, 3) := by decide +kernel
theorem dX5_stage_49 : decode cX5_stage 49 = .ok (.iconst 1, 1) := by decide +kernel
theorem dX5_stage_50 : decode cX5_stage 50 = .ok (.goto 4, 3) := by decide +kernel
theorem dX5_stage_53 : decode cX5_stage 53 = .ok (.iconst 0, 1) := by decide +kernel
theorem dX5_stage_54 : decode cX5_stage 54 = .ok (.putfield 107, 3) := by decide +kernel
theorem dX5_stage_57 : decode cX5_stage 57 = .ok (.aload_n 0, 1) := by decide +kernel
theorem dX5_stage_58 : decode cX5_stage 58 = .ok (.iload 4, 2) := by decide +kernel
theorem dX5_stage_60 : decode cX5_stage 60 = .ok (.invokevirtual 66, 3) := by decide +kernel
theorem dX5_stage_63 : decode cX5_stage 63 = .ok (.ireturn, 1) := by decide +kernel
theorem dX5_rest_0 : decode cX5_rest 0 = .ok (.aload_n 0, 1) := by decide +kernel
theorem dX5_rest_1 : decode cX5_rest 1 = .ok (.getfield 12, 3) := by decide +kernel
theorem dX5_rest_4 : decode cX5_rest 4 = .ok (.iload_n 1, 1) := by decide +kernel
theorem dX5_rest_5 : decode cX5_rest 5 = .ok (.invokevirtual 77, 3) := by decide +kernel
theorem dX5_rest_8 : decode cX5_rest 8 = .ok (.ifnull 7, 3) := by decide +kernel
theorem dX5_rest_11 : decode cX5_rest 11 = .ok (.iload_n 2, 1) := by decide +kernel
theorem dX5_rest_12 : decode cX5_rest 12 = .ok (.ifCond .ge 10, 3) := by decide +kernel
theorem dX5_rest_15 : decode cX5_rest 15 = .ok (.aload_n 0, 1) := by decide +kernel
theorem dX5_rest_16 : decode cX5_rest 16 = .ok (.ldc 65, 2) := by decide +kernel
theorem dX5_rest_18 : decode cX5_rest 18 = .ok (.invokevirtual 66, 3) := by decide +kernel
theorem dX5_rest_21 : decode cX5_rest 21 = .ok (.ireturn, 1) := by decide +kernel
theorem dX5_rest_22 : decode cX5_rest 22 = .ok (.aload_n 0, 1) := by decide +kernel
theorem dX5_rest_23 : decode cX5_rest 23 = .ok (.getfield 21, 3) := by decide +kernel
theorem dX5_rest_26 : decode cX5_rest 26 = .ok (.iload_n 1, 1) := by decide +kernel
theorem dX5_rest_27 : decode cX5_rest 27 = .ok (.aload_n 0, 1) := by decide +kernel
theorem dX5_rest_28 : decode cX5_rest 28 = .ok (.getfield 49, 3) := by decide +kernel
theorem dX5_rest_31 : decode cX5_rest 31 = .ok (.invokevirtual 111, 3) := by decide +kernel
theorem dX5_rest_34 : decode cX5_rest 34 = .ok (.aload_n 0, 1) := by decide +kernel
theorem dX5_rest_35 : decode cX5_rest 35 = .ok (.aload_n 0, 1) := by decide +kernel
theorem dX5_rest_36 : decode cX5_rest 36 = .ok (.getfield 21, 3) := by decide +kernel
theorem dX5_rest_39 : decode cX5_rest 39 = .ok (.iload_n 2, 1) := by decide +kernel
theorem dX5_rest_40 : decode cX5_rest 40 = .ok (.invokevirtual 115, 3) := by decide +kernel
theorem dX5_rest_43 : decode cX5_rest 43 = .ok (.invokevirtual 66, 3) := by decide +kernel
theorem dX5_rest_46 : decode cX5_rest 46 = .ok (.ireturn, 1) := by decide +kernel
theorem dX5_cue_0 : decode cX5_cue 0 = .ok (.aload_n 0, 1) := by decide +kernel
theorem dX5_cue_1 : decode cX5_cue 1 = .ok (.getfield 12, 3) := by decide +kernel
theorem dX5_cue_4 : decode cX5_cue 4 = .ok (.iload_n 1, 1) := by decide +kernel
theorem dX5_cue_5 : decode cX5_cue 5 = .ok (.invokevirtual 77, 3) := by decide +kernel
theorem dX5_cue_8 : decode cX5_cue 8 = .ok (.ifnull 14, 3) := by decide +kernel
theorem dX5_cue_11 : decode cX5_cue 11 = .ok (.aload_n 0, 1) := by decide +kernel
theorem dX5_cue_12 : decode cX5_cue 12 = .ok (.getfield 12, 3) := by decide +kernel
theorem dX5_cue_15 : decode cX5_cue 15 = .ok (.iload_n 2, 1) := by decide +kernel
theorem dX5_cue_16 : decode cX5_cue 16 = .ok (.invokevirtual 91, 3) := by decide +kernel
theorem dX5_cue_19 : decode cX5_cue 19 = .ok (.ifCond .ne 10, 3) := by decide +kernel
theorem dX5_cue_22 : decode cX5_cue 22 = .ok (.aload_n 0, 1) := by decide +kernel
theorem dX5_cue_23 : decode cX5_cue 23 = .ok (.ldc 65, 2) := by decide +kernel
theorem dX5_cue_25 : decode cX5_cue 25 = .ok (.invokevirtual 66, 3) := by decide +kernel
theorem dX5_cue_28 : decode cX5_cue 28 = .ok (.ireturn, 1) := by decide +kernel
theorem dX5_cue_29 : decode cX5_cue 29 = .ok (.aload_n 0, 1) := by decide +kernel
theorem dX5_cue_30 : decode cX5_cue 30 = .ok (.getfield 21, 3) := by decide +kernel
theorem dX5_cue_33 : decode cX5_cue 33 = .ok (.iload_n 1, 1) := by decide +kernel
theorem dX5_cue_34 : decode cX5_cue 34 = .ok (.aload_n 0, 1) := by decide +kernel
theorem dX5_cue_35 : decode cX5_cue 35 = .ok (.getfield 49, 3) := by decide +kernel
theorem dX5_cue_38 : decode cX5_cue 38 = .ok (.invokevirtual 111, 3) := by decide +kernel
theorem dX5_cue_41 : decode cX5_cue 41 = .ok (.aload_n 0, 1) := by decide +kernel
theorem dX5_cue_42 : decode cX5_cue 42 = .ok (.aload_n 0, 1) := by decide +kernel
theorem dX5_cue_43 : decode cX5_cue 43 = .ok (.getfield 21, 3) := by decide +kernel
theorem dX5_cue_46 : decode cX5_cue 46 = .ok (.aload_n 0, 1) := by decide +kernel
theorem dX5_cue_47 : decode cX5_cue 47 = .ok (.getfield 21, 3) := by decide +kernel
theorem dX5_cue_50 : decode cX5_cue 50 = .ok (.iload_n 2, 1) := by decide +kernel
theorem dX5_cue_51 : decode cX5_cue 51 = .ok (.invokevirtual 118, 3) := by decide +kernel
theorem dX5_cue_54 : decode cX5_cue 54 = .ok (.invokevirtual 121, 3) := by decide +kernel
theorem dX5_cue_57 : decode cX5_cue 57 = .ok (.invokevirtual 66, 3) := by decide +kernel
theorem dX5_cue_60 : decode cX5_cue 60 = .ok (.ireturn, 1) := by decide +kernel
theorem dX5_key_0 : decode cX5_key 0 = .ok (.iload_n 1, 1) := by decide +kernel
theorem dX5_key_1 : decode cX5_key 1 = .ok (.bipush (-7), 2) := by decide +kernel
theorem dX5_key_3 : decode cX5_key 3 = .ok (.bipush 7, 2) := by decide +kernel
theorem dX5_key_5 : decode cX5_key 5 = .ok (.invokestatic 61, 3) := by decide +kernel
theorem dX5_key_8 : decode cX5_key 8 = .ok (.ifCond .ne 10, 3) := by decide +kernel
theorem dX5_key_11 : decode cX5_key 11 = .ok (.aload_n 0, 1) := by decide +kernel
theorem dX5_key_12 : decode cX5_key 12 = .ok (.ldc 65, 2) := by decide +kernel
theorem dX5_key_14 : decode cX5_key 14 = .ok (.invokevirtual 66, 3) := by decide +kernel
theorem dX5_key_17 : decode cX5_key 17 = .ok (.ireturn, 1) := by decide +kernel
theorem dX5_key_18 : decode cX5_key 18 = .ok (.aload_n 0, 1) := by decide +kernel
theorem dX5_key_19 : decode cX5_key 19 = .ok (.getfield 45, 3) := by decide +kernel
theorem dX5_key_22 : decode cX5_key 22 = .ok (.istore_n 2, 1) := by decide +kernel
theorem dX5_key_23 : decode cX5_key 23 = .ok (.aload_n 0, 1) := by decide +kernel
theorem dX5_key_24 : decode cX5_key 24 = .ok (.iload_n 1, 1) := by decide +kernel
theorem dX5_key_25 : decode cX5_key 25 = .ok (.putfield 45, 3) := by decide +kernel
theorem dX5_key_28 : decode cX5_key 28 = .ok (.aload_n 0, 1) := by decide +kernel
theorem dX5_key_29 : decode cX5_key 29 = .ok (.iload_n 2, 1) := by decide +kernel
theorem dX5_key_30 : decode cX5_key 30 = .ok (.invokevirtual 66, 3) := by decide +kernel
theorem dX5_key_33 : decode cX5_key 33 = .ok (.ireturn, 1) := by decide +kernel
theorem dX5_written_0 : decode cX5_written 0 = .ok (.aload_n 0, 1) := by decide +kernel
theorem dX5_written_1 : decode cX5_written 1 = .ok (.getfield 12, 3) := by decide +kernel
theorem dX5_written_4 : decode cX5_written 4 = .ok (.iload_n 1, 1) := by decide +kernel
theorem dX5_written_5 : decode cX5_written 5 = .ok (.invokevirtual 77, 3) := by decide +kernel
theorem dX5_written_8 : decode cX5_written 8 = .ok (.astore_n 2, 1) := by decide +kernel
theorem dX5_written_9 : decode cX5_written 9 = .ok (.aload_n 2, 1) := by decide +kernel
theorem dX5_written_10 : decode cX5_written 10 = .ok (.ifnonnull 10, 3) := by decide +kernel
theorem dX5_written_13 : decode cX5_written 13 = .ok (.aload_n 0, 1) := by decide +kernel
theorem dX5_written_14 : decode cX5_written 14 = .ok (.ldc 65, 2) := by decide +kernel
theorem dX5_written_16 : decode cX5_written 16 = .ok (.invokevirtual 66, 3) := by decide +kernel
theorem dX5_written_19 : decode cX5_written 19 = .ok (.ireturn, 1) := by decide +kernel
theorem dX5_written_20 : decode cX5_written 20 = .ok (.aload_n 0, 1) := by decide +kernel
theorem dX5_written_21 : decode cX5_written 21 = .ok (.aload_n 0, 1) := by decide +kernel
theorem dX5_written_22 : decode cX5_written 22 = .ok (.getfield 45, 3) := by decide +kernel
theorem dX5_written_25 : decode cX5_written 25 = .ok (.bipush 7, 2) := by decide +kernel
theorem dX5_written_27 : decode cX5_written 27 = .ok (.aload_n 2, 1) := by decide +kernel
theorem dX5_written_28 : decode cX5_written 28 = .ok (.getfield 87, 3) := by decide +kernel
theorem dX5_written_31 : decode cX5_written 31 = .ok (.imul, 1) := by decide +kernel
theorem dX5_written_32 : decode cX5_written 32 = .ok (.iadd, 1) := by decide +kernel
theorem dX5_written_33 : decode cX5_written 33 = .ok (.bipush 6, 2) := by decide +kernel
theorem dX5_written_35 : decode cX5_written 35 = .ok (.iadd, 1) := by decide +kernel
theorem dX5_written_36 : decode cX5_written 36 = .ok (.bipush 12, 2) := by decide +kernel
theorem dX5_written_38 : decode cX5_written 38 = .ok (.invokestatic 124, 3) := by decide +kernel
theorem dX5_written_41 : decode cX5_written 41 = .ok (.bipush 6, 2) := by decide +kernel
theorem dX5_written_43 : decode cX5_written 43 = .ok (.isub, 1) := by decide +kernel
theorem dX5_written_44 : decode cX5_written 44 = .ok (.invokevirtual 66, 3) := by decide +kernel
theorem dX5_written_47 : decode cX5_written 47 = .ok (.ireturn, 1) := by decide +kernel
theorem dX5_due_0 : decode cX5_due 0 = .ok (.iload_n 1, 1) := by decide +kernel
theorem dX5_due_1 : decode cX5_due 1 = .ok (.iconst 1, 1) := by decide +kernel
theorem dX5_due_2 : decode cX5_due 2 = .ok (.bipush 20, 2) := by decide +kernel
theorem dX5_due_4 : decode cX5_due 4 = .ok (.invokestatic 61, 3) := by decide +kernel
theorem dX5_due_7 : decode cX5_due 7 = .ok (.ifCond .ne 10, 3) := by decide +kernel
theorem dX5_due_10 : decode cX5_due 10 = .ok (.aload_n 0, 1) := by decide +kernel
theorem dX5_due_11 : decode cX5_due 11 = .ok (.ldc 65, 2) := by decide +kernel
theorem dX5_due_13 : decode cX5_due 13 = .ok (.invokevirtual 66, 3) := by decide +kernel
theorem dX5_due_16 : decode cX5_due 16 = .ok (.ireturn, 1) := by decide +kernel
theorem dX5_due_17 : decode cX5_due 17 = .ok (.aload_n 0, 1) := by decide +kernel
theorem dX5_due_18 : decode cX5_due 18 = .ok (.getfield 49, 3) := by decide +kernel
theorem dX5_due_21 : decode cX5_due 21 = .ok (.istore_n 2, 1) := by decide +kernel
theorem dX5_due_22 : decode cX5_due 22 = .ok (.aload_n 0, 1) := by decide +kernel
theorem dX5_due_23 : decode cX5_due 23 = .ok (.iload_n 1, 1) := by decide +kernel
theorem dX5_due_24 : decode cX5_due 24 = .ok (.putfield 49, 3) := by decide +kernel
theorem dX5_due_27 : decode cX5_due 27 = .ok (.aload_n 0, 1) := by decide +kernel
theorem dX5_due_28 : decode cX5_due 28 = .ok (.iload_n 2, 1) := by decide +kernel
theorem dX5_due_29 : decode cX5_due 29 = .ok (.invokevirtual 66, 3) := by decide +kernel
theorem dX5_due_32 : decode cX5_due 32 = .ok (.ireturn, 1) := by decide +kernel
theorem dX5_paper_0 : decode cX5_paper 0 = .ok (.iload_n 1, 1) := by decide +kernel
theorem dX5_paper_1 : decode cX5_paper 1 = .ok (.bipush 21, 2) := by decide +kernel
theorem dX5_paper_3 : decode cX5_paper 3 = .ok (.bipush 60, 2) := by decide +kernel
theorem dX5_paper_5 : decode cX5_paper 5 = .ok (.invokestatic 61, 3) := by decide +kernel
theorem dX5_paper_8 : decode cX5_paper 8 = .ok (.ifCond .eq 13, 3) := by decide +kernel
theorem dX5_paper_11 : decode cX5_paper 11 = .ok (.iload_n 2, 1) := by decide +kernel
theorem dX5_paper_12 : decode cX5_paper 12 = .ok (.iconst 1, 1) := by decide +kernel
theorem dX5_paper_13 : decode cX5_paper 13 = .ok (.bipush 8, 2) := by decide +kernel
theorem dX5_paper_15 : decode cX5_paper 15 = .ok (.invokestatic 61, 3) := by decide +kernel
theorem dX5_paper_18 : decode cX5_paper 18 = .ok (.ifCond .ne 10, 3) := by decide +kernel
theorem dX5_paper_21 : decode cX5_paper 21 = .ok (.aload_n 0, 1) := by decide +kernel
theorem dX5_paper_22 : decode cX5_paper 22 = .ok (.ldc 65, 2) := by decide +kernel
theorem dX5_paper_24 : decode cX5_paper 24 = .ok (.invokevirtual 66, 3) := by decide +kernel
theorem dX5_paper_27 : decode cX5_paper 27 = .ok (.ireturn, 1) := by decide +kernel
theorem dX5_paper_28 : decode cX5_paper 28 = .ok (.aload_n 0, 1) := by decide +kernel
theorem dX5_paper_29 : decode cX5_paper 29 = .ok (.iload_n 1, 1) := by decide +kernel
theorem dX5_paper_30 : decode cX5_paper 30 = .ok (.putfield 52, 3) := by decide +kernel
theorem dX5_paper_33 : decode cX5_paper 33 = .ok (.aload_n 0, 1) := by decide +kernel
theorem dX5_paper_34 : decode cX5_paper 34 = .ok (.iload_n 2, 1) := by decide +kernel
theorem dX5_paper_35 : decode cX5_paper 35 = .ok (.putfield 55, 3) := by decide +kernel
theorem dX5_paper_38 : decode cX5_paper 38 = .ok (.aload_n 0, 1) := by decide +kernel
theorem dX5_paper_39 : decode cX5_paper 39 = .ok (.iconst 1, 1) := by decide +kernel
theorem dX5_paper_40 : decode cX5_paper 40 = .ok (.invokevirtual 66, 3) := by decide +kernel
theorem dX5_paper_43 : decode cX5_paper 43 = .ok (.ireturn, 1) := by decide +kernel
theorem dX5_need_0 : decode cX5_need 0 = .ok (.iload_n 1, 1) := by decide +kernel
theorem dX5_need_1 : decode cX5_need 1 = .ok (.iconst 0, 1) := by decide +kernel
theorem dX5_need_2 : decode cX5_need 2 = .ok (.bipush 60, 2) := by decide +kernel
theorem dX5_need_4 : decode cX5_need 4 = .ok (.invokestatic 61, 3) := by decide +kernel
theorem dX5_need_7 : decode cX5_need 7 = .ok (.ifCond .ne 10, 3) := by decide +kernel
theorem dX5_need_10 : decode cX5_need 10 = .ok (.aload_n 0, 1) := by decide +kernel
theorem dX5_need_11 : decode cX5_need 11 = .ok (.ldc 65, 2) := by decide +kernel
theorem dX5_need_13 : decode cX5_need 13 = .ok (.invokevirtual 66, 3) := by decide +kernel
theorem dX5_need_16 : decode cX5_need 16 = .ok (.ireturn, 1) := by decide +kernel
theorem dX5_need_17 : decode cX5_need 17 = .ok (.aload_n 0, 1) := by decide +kernel
theorem dX5_need_18 : decode cX5_need 18 = .ok (.getfield 58, 3) := by decide +kernel
theorem dX5_need_21 : decode cX5_need 21 = .ok (.istore_n 2, 1) := by decide +kernel
theorem dX5_need_22 : decode cX5_need 22 = .ok (.aload_n 0, 1) := by decide +kernel
theorem dX5_need_23 : decode cX5_need 23 = .ok (.iload_n 1, 1) := by decide +kernel
theorem dX5_need_24 : decode cX5_need 24 = .ok (.putfield 58, 3) := by decide +kernel
theorem dX5_need_27 : decode cX5_need 27 = .ok (.aload_n 0, 1) := by decide +kernel
theorem dX5_need_28 : decode cX5_need 28 = .ok (.iload_n 2, 1) := by decide +kernel
theorem dX5_need_29 : decode cX5_need 29 = .ok (.invokevirtual 66, 3) := by decide +kernel
theorem dX5_need_32 : decode cX5_need 32 = .ok (.ireturn, 1) := by decide +kernel
theorem dX5_pages_0 : decode cX5_pages 0 = .ok (.aload_n 0, 1) := by decide +kernel
theorem dX5_pages_1 : decode cX5_pages 1 = .ok (.getfield 12, 3) := by decide +kernel
theorem dX5_pages_4 : decode cX5_pages 4 = .ok (.iload_n 1, 1) := by decide +kernel
theorem dX5_pages_5 : decode cX5_pages 5 = .ok (.invokevirtual 77, 3) := by decide +kernel
theorem dX5_pages_8 : decode cX5_pages 8 = .ok (.astore_n 3, 1) := by decide +kernel
theorem dX5_pages_9 : decode cX5_pages 9 = .ok (.aload_n 3, 1) := by decide +kernel
theorem dX5_pages_10 : decode cX5_pages 10 = .ok (.ifnull 12, 3) := by decide +kernel
theorem dX5_pages_13 : decode cX5_pages 13 = .ok (.iload_n 2, 1) := by decide +kernel
theorem dX5_pages_14 : decode cX5_pages 14 = .ok (.iconst 0, 1) := by decide +kernel
theorem dX5_pages_15 : decode cX5_pages 15 = .ok (.iconst 1, 1) := by decide +kernel
theorem dX5_pages_16 : decode cX5_pages 16 = .ok (.invokestatic 61, 3) := by decide +kernel
theorem dX5_pages_19 : decode cX5_pages 19 = .ok (.ifCond .ne 10, 3) := by decide +kernel
theorem dX5_pages_22 : decode cX5_pages 22 = .ok (.aload_n 0, 1) := by decide +kernel
theorem dX5_pages_23 : decode cX5_pages 23 = .ok (.ldc 65, 2) := by decide +kernel
theorem dX5_pages_25 : decode cX5_pages 25 = .ok (.invokevirtual 66, 3) := by decide +kernel
theorem dX5_pages_28 : decode cX5_pages 28 = .ok (.ireturn, 1) := by decide +kernel
theorem dX5_pages_29 : decode cX5_pages 29 = .ok (.aload_n 0, 1) := by decide +kernel
theorem dX5_pages_30 : decode cX5_pages 30 = .ok (.iload_n 1, 1) := by decide +kernel
theorem dX5_pages_31 : decode cX5_pages 31 = .ok (.aload_n 3, 1) := by decide +kernel
theorem dX5_pages_32 : decode cX5_pages 32 = .ok (.invokevirtual 129, 3) := by decide +kernel
theorem dX5_pages_35 : decode cX5_pages 35 = .ok (.aload_n 0, 1) := by decide +kernel
theorem dX5_pages_36 : decode cX5_pages 36 = .ok (.getfield 30, 3) := by decide +kernel
theorem dX5_pages_39 : decode cX5_pages 39 = .ok (.invokevirtual 133, 3) := by decide +kernel
theorem dX5_pages_42 : decode cX5_pages 42 = .ok (.ifCond .ne 10, 3) := by decide +kernel
theorem dX5_pages_45 : decode cX5_pages 45 = .ok (.aload_n 0, 1) := by decide +kernel
theorem dX5_pages_46 : decode cX5_pages 46 = .ok (.ldc 137, 2) := by decide +kernel
theorem dX5_pages_48 : decode cX5_pages 48 = .ok (.invokevirtual 66, 3) := by decide +kernel
theorem dX5_pages_51 : decode cX5_pages 51 = .ok (.ireturn, 1) := by decide +kernel
theorem dX5_pages_52 : decode cX5_pages 52 = .ok (.aload_n 0, 1) := by decide +kernel
theorem dX5_pages_53 : decode cX5_pages 53 = .ok (.iload_n 2, 1) := by decide +kernel
theorem dX5_pages_54 : decode cX5_pages 54 = .ok (.ifCond .ne 13, 3) := by decide +kernel
theorem dX5_pages_57 : decode cX5_pages 57 = .ok (.aload_n 0, 1) := by decide +kernel
theorem dX5_pages_58 : decode cX5_pages 58 = .ok (.getfield 30, 3) := by decide +kernel
theorem dX5_pages_61 : decode cX5_pages 61 = .ok (.invokevirtual 133, 3) := by decide +kernel
theorem dX5_pages_64 : decode cX5_pages 64 = .ok (.goto 10, 3) := by decide +kernel
theorem dX5_pages_67 : decode cX5_pages 67 = .ok (.aload_n 0, 1) := by decide +kernel
theorem dX5_pages_68 : decode cX5_pages 68 = .ok (.getfield 30, 3) := by decide +kernel
theorem dX5_pages_71 : decode cX5_pages 71 = .ok (.invokevirtual 138, 3) := by decide +kernel
theorem dX5_pages_74 : decode cX5_pages 74 = .ok (.invokevirtual 66, 3) := by decide +kernel
theorem dX5_pages_77 : decode cX5_pages 77 = .ok (.ireturn, 1) := by decide +kernel
theorem dX5_page_0 : decode cX5_page 0 = .ok (.aload_n 0, 1) := by decide +kernel
theorem dX5_page_1 : decode cX5_page 1 = .ok (.getfield 12, 3) := by decide +kernel
theorem dX5_page_4 : decode cX5_page 4 = .ok (.iload_n 1, 1) := by decide +kernel
theorem dX5_page_5 : decode cX5_page 5 = .ok (.invokevirtual 77, 3) := by decide +kernel
theorem dX5_page_8 : decode cX5_page 8 = .ok (.astore_n 3, 1) := by decide +kernel
theorem dX5_page_9 : decode cX5_page 9 = .ok (.aload_n 3, 1) := by decide +kernel
theorem dX5_page_10 : decode cX5_page 10 = .ok (.ifnull 7, 3) := by decide +kernel
theorem dX5_page_13 : decode cX5_page 13 = .ok (.iload_n 2, 1) := by decide +kernel
theorem dX5_page_14 : decode cX5_page 14 = .ok (.ifCond .ge 10, 3) := by decide +kernel
theorem dX5_page_17 : decode cX5_page 17 = .ok (.aload_n 0, 1) := by decide +kernel
theorem dX5_page_18 : decode cX5_page 18 = .ok (.ldc 65, 2) := by decide +kernel
theorem dX5_page_20 : decode cX5_page 20 = .ok (.invokevirtual 66, 3) := by decide +kernel
theorem dX5_page_23 : decode cX5_page 23 = .ok (.ireturn, 1) := by decide +kernel
theorem dX5_page_24 : decode cX5_page 24 = .ok (.aload_n 0, 1) := by decide +kernel
theorem dX5_page_25 : decode cX5_page 25 = .ok (.iload_n 1, 1) := by decide +kernel
theorem dX5_page_26 : decode cX5_page 26 = .ok (.aload_n 3, 1) := by decide +kernel
theorem dX5_page_27 : decode cX5_page 27 = .ok (.invokevirtual 129, 3) := by decide +kernel
theorem dX5_page_30 : decode cX5_page 30 = .ok (.aload_n 0, 1) := by decide +kernel
theorem dX5_page_31 : decode cX5_page 31 = .ok (.aload_n 0, 1) := by decide +kernel
theorem dX5_page_32 : decode cX5_page 32 = .ok (.getfield 30, 3) := by decide +kernel
theorem dX5_page_35 : decode cX5_page 35 = .ok (.iload_n 2, 1) := by decide +kernel
theorem dX5_page_36 : decode cX5_page 36 = .ok (.invokevirtual 141, 3) := by decide +kernel
theorem dX5_page_39 : decode cX5_page 39 = .ok (.invokevirtual 66, 3) := by decide +kernel
theorem dX5_page_42 : decode cX5_page 42 = .ok (.ireturn, 1) := by decide +kernel
theorem dX5_free_0 : decode cX5_free 0 = .ok (.aload_n 0, 1) := by decide +kernel
theorem dX5_free_1 : decode cX5_free 1 = .ok (.getfield 12, 3) := by decide +kernel
theorem dX5_free_4 : decode cX5_free 4 = .ok (.iload_n 1, 1) := by decide +kernel
theorem dX5_free_5 : decode cX5_free 5 = .ok (.invokevirtual 77, 3) := by decide +kernel
theorem dX5_free_8 : decode cX5_free 8 = .ok (.astore_n 3, 1) := by decide +kernel
theorem dX5_free_9 : decode cX5_free 9 = .ok (.aload_n 3, 1) := by decide +kernel
theorem dX5_free_10 : decode cX5_free 10 = .ok (.ifnull 7, 3) := by decide +kernel
theorem dX5_free_13 : decode cX5_free 13 = .ok (.iload_n 2, 1) := by decide +kernel
theorem dX5_free_14 : decode cX5_free 14 = .ok (.ifCond .ge 10, 3) := by decide +kernel
theorem dX5_free_17 : decode cX5_free 17 = .ok (.aload_n 0, 1) := by decide +kernel
theorem dX5_free_18 : decode cX5_free 18 = .ok (.ldc 65, 2) := by decide +kernel
theorem dX5_free_20 : decode cX5_free 20 = .ok (.invokevirtual 66, 3) := by decide +kernel
theorem dX5_free_23 : decode cX5_free 23 = .ok (.ireturn, 1) := by decide +kernel
theorem dX5_free_24 : decode cX5_free 24 = .ok (.aload_n 0, 1) := by decide +kernel
theorem dX5_free_25 : decode cX5_free 25 = .ok (.iload_n 1, 1) := by decide +kernel
theorem dX5_free_26 : decode cX5_free 26 = .ok (.aload_n 3, 1) := by decide +kernel
theorem dX5_free_27 : decode cX5_free 27 = .ok (.invokevirtual 129, 3) := by decide +kernel
theorem dX5_free_30 : decode cX5_free 30 = .ok (.aload_n 0, 1) := by decide +kernel
theorem dX5_free_31 : decode cX5_free 31 = .ok (.aload_n 0, 1) := by decide +kernel
theorem dX5_free_32 : decode cX5_free 32 = .ok (.getfield 30, 3) := by decide +kernel
theorem dX5_free_35 : decode cX5_free 35 = .ok (.iload_n 2, 1) := by decide +kernel
theorem dX5_free_36 : decode cX5_free 36 = .ok (.invokevirtual 144, 3) := by decide +kernel
theorem dX5_free_39 : decode cX5_free 39 = .ok (.invokevirtual 66, 3) := by decide +kernel
theorem dX5_free_42 : decode cX5_free 42 = .ok (.ireturn, 1) := by decide +kernel
theorem dX5_systems_0 : decode cX5_systems 0 = .ok (.aload_n 0, 1) := by decide +kernel
theorem dX5_systems_1 : decode cX5_systems 1 = .ok (.getfield 12, 3) := by decide +kernel
theorem dX5_systems_4 : decode cX5_systems 4 = .ok (.iload_n 1, 1) := by decide +kernel
theorem dX5_systems_5 : decode cX5_systems 5 = .ok (.invokevirtual 77, 3) := by decide +kernel
theorem dX5_systems_8 : decode cX5_systems 8 = .ok (.astore_n 3, 1) := by decide +kernel
theorem dX5_systems_9 : decode cX5_systems 9 = .ok (.aload_n 3, 1) := by decide +kernel
theorem dX5_systems_10 : decode cX5_systems 10 = .ok (.ifnull 7, 3) := by decide +kernel
theorem dX5_systems_13 : decode cX5_systems 13 = .ok (.iload_n 2, 1) := by decide +kernel
theorem dX5_systems_14 : decode cX5_systems 14 = .ok (.ifCond .ge 10, 3) := by decide +kernel
theorem dX5_systems_17 : decode cX5_systems 17 = .ok (.aload_n 0, 1) := by decide +kernel
theorem dX5_systems_18 : decode cX5_systems 18 = .ok (.ldc 65, 2) := by decide +kernel
theorem dX5_systems_20 : decode cX5_systems 20 = .ok (.invokevirtual 66, 3) := by decide +kernel
theorem dX5_systems_23 : decode cX5_systems 23 = .ok (.ireturn, 1) := by decide +kernel
theorem dX5_systems_24 : decode cX5_systems 24 = .ok (.aload_n 0, 1) := by decide +kernel
theorem dX5_systems_25 : decode cX5_systems 25 = .ok (.iload_n 1, 1) := by decide +kernel
theorem dX5_systems_26 : decode cX5_systems 26 = .ok (.aload_n 3, 1) := by decide +kernel
theorem dX5_systems_27 : decode cX5_systems 27 = .ok (.invokevirtual 129, 3) := by decide +kernel
theorem dX5_systems_30 : decode cX5_systems 30 = .ok (.aload_n 0, 1) := by decide +kernel
theorem dX5_systems_31 : decode cX5_systems 31 = .ok (.aload_n 0, 1) := by decide +kernel
theorem dX5_systems_32 : decode cX5_systems 32 = .ok (.getfield 30, 3) := by decide +kernel
theorem dX5_systems_35 : decode cX5_systems 35 = .ok (.iload_n 2, 1) := by decide +kernel
theorem dX5_systems_36 : decode cX5_systems 36 = .ok (.invokevirtual 147, 3) := by decide +kernel
theorem dX5_systems_39 : decode cX5_systems 39 = .ok (.invokevirtual 66, 3) := by decide +kernel
theorem dX5_systems_42 : decode cX5_systems 42 = .ok (.ireturn, 1) := by decide +kernel
theorem dX5_lay_0 : decode cX5_lay 0 = .ok (.aload_n 0, 1) := by decide +kernel
theorem dX5_lay_1 : decode cX5_lay 1 = .ok (.getfield 12, 3) := by decide +kernel
theorem dX5_lay_4 : decode cX5_lay 4 = .ok (.iload_n 1, 1) := by decide +kernel
theorem dX5_lay_5 : decode cX5_lay 5 = .ok (.invokevirtual 77, 3) := by decide +kernel
theorem dX5_lay_8 : decode cX5_lay 8 = .ok (.astore_n 2, 1) := by decide +kernel
theorem dX5_lay_9 : decode cX5_lay 9 = .ok (.aload_n 2, 1) := by decide +kernel
theorem dX5_lay_10 : decode cX5_lay 10 = .ok (.ifnonnull 10, 3) := by decide +kernel
theorem dX5_lay_13 : decode cX5_lay 13 = .ok (.aload_n 0, 1) := by decide +kernel
theorem dX5_lay_14 : decode cX5_lay 14 = .ok (.ldc 65, 2) := by decide +kernel
theorem dX5_lay_16 : decode cX5_lay 16 = .ok (.invokevirtual 66, 3) := by decide +kernel
theorem dX5_lay_19 : decode cX5_lay 19 = .ok (.ireturn, 1) := by decide +kernel
theorem dX5_lay_20 : decode cX5_lay 20 = .ok (.aload_n 0, 1) := by decide +kernel
theorem dX5_lay_21 : decode cX5_lay 21 = .ok (.iload_n 1, 1) := by decide +kernel
theorem dX5_lay_22 : decode cX5_lay 22 = .ok (.aload_n 2, 1) := by decide +kernel
theorem dX5_lay_23 : decode cX5_lay 23 = .ok (.invokevirtual 129, 3) := by decide +kernel
theorem dX5_lay_26 : decode cX5_lay 26 = .ok (.aload_n 0, 1) := by decide +kernel
theorem dX5_lay_27 : decode cX5_lay 27 = .ok (.getfield 30, 3) := by decide +kernel
theorem dX5_lay_30 : decode cX5_lay 30 = .ok (.invokevirtual 133, 3) := by decide +kernel
theorem dX5_lay_33 : decode cX5_lay 33 = .ok (.ifCond .ne 10, 3) := by decide +kernel
theorem dX5_lay_36 : decode cX5_lay 36 = .ok (.aload_n 0, 1) := by decide +kernel
theorem dX5_lay_37 : decode cX5_lay 37 = .ok (.ldc 137, 2) := by decide +kernel
theorem dX5_lay_39 : decode cX5_lay 39 = .ok (.invokevirtual 66, 3) := by decide +kernel
theorem dX5_lay_42 : decode cX5_lay 42 = .ok (.ireturn, 1) := by decide +kernel
theorem dX5_lay_43 : decode cX5_lay 43 = .ok (.aload_n 2, 1) := by decide +kernel
theorem dX5_lay_44 : decode cX5_lay 44 = .ok (.aload_n 0, 1) := by decide +kernel
theorem dX5_lay_45 : decode cX5_lay 45 = .ok (.getfield 12, 3) := by decide +kernel
theorem dX5_lay_48 : decode cX5_lay 48 = .ok (.aload_n 0, 1) := by decide +kernel
theorem dX5_lay_49 : decode cX5_lay 49 = .ok (.getfield 30, 3) := by decide +kernel
theorem dX5_lay_52 : decode cX5_lay 52 = .ok (.invokevirtual 150, 3) := by decide +kernel
theorem dX5_lay_55 : decode cX5_lay 55 = .ok (.aload_n 0, 1) := by decide +kernel
theorem dX5_lay_56 : decode cX5_lay 56 = .ok (.aload_n 2, 1) := by decide +kernel
theorem dX5_lay_57 : decode cX5_lay 57 = .ok (.getfield 154, 3) := by decide +kernel
theorem dX5_lay_60 : decode cX5_lay 60 = .ok (.invokevirtual 66, 3) := by decide +kernel
theorem dX5_lay_63 : decode cX5_lay 63 = .ok (.ireturn, 1) := by decide +kernel
theorem dX5_stale_0 : decode cX5_stale 0 = .ok (.aload_n 0, 1) := by decide +kernel
theorem dX5_stale_1 : decode cX5_stale 1 = .ok (.getfield 12, 3) := by decide +kernel
theorem dX5_stale_4 : decode cX5_stale 4 = .ok (.iload_n 1, 1) := by decide +kernel
theorem dX5_stale_5 : decode cX5_stale 5 = .ok (.invokevirtual 77, 3) := by decide +kernel
theorem dX5_stale_8 : decode cX5_stale 8 = .ok (.astore_n 2, 1) := by decide +kernel
theorem dX5_stale_9 : decode cX5_stale 9 = .ok (.aload_n 2, 1) := by decide +kernel
theorem dX5_stale_10 : decode cX5_stale 10 = .ok (.ifnonnull 10, 3) := by decide +kernel
theorem dX5_stale_13 : decode cX5_stale 13 = .ok (.aload_n 0, 1) := by decide +kernel
theorem dX5_stale_14 : decode cX5_stale 14 = .ok (.ldc 65, 2) := by decide +kernel
theorem dX5_stale_16 : decode cX5_stale 16 = .ok (.invokevirtual 66, 3) := by decide +kernel
theorem dX5_stale_19 : decode cX5_stale 19 = .ok (.ireturn, 1) := by decide +kernel
theorem dX5_stale_20 : decode cX5_stale 20 = .ok (.aload_n 0, 1) := by decide +kernel
theorem dX5_stale_21 : decode cX5_stale 21 = .ok (.aload_n 2, 1) := by decide +kernel
theorem dX5_stale_22 : decode cX5_stale 22 = .ok (.getfield 154, 3) := by decide +kernel
theorem dX5_stale_25 : decode cX5_stale 25 = .ok (.ifCond .ne 8, 3) := by decide +kernel
theorem dX5_stale_28 : decode cX5_stale 28 = .ok (.ldc 137, 2) := by decide +kernel
theorem dX5_stale_30 : decode cX5_stale 30 = .ok (.goto 11, 3) := by decide +kernel
theorem dX5_stale_33 : decode cX5_stale 33 = .ok (.aload_n 2, 1) := by decide +kernel
theorem dX5_stale_34 : decode cX5_stale 34 = .ok (.aload_n 0, 1) := by decide +kernel
theorem dX5_stale_35 : decode cX5_stale 35 = .ok (.getfield 12, 3) := by decide +kernel
theorem dX5_stale_38 : decode cX5_stale 38 = .ok (.invokevirtual 157, 3) := by decide +kernel
theorem dX5_stale_41 : decode cX5_stale 41 = .ok (.invokevirtual 66, 3) := by decide +kernel
theorem dX5_stale_44 : decode cX5_stale 44 = .ok (.ireturn, 1) := by decide +kernel
theorem dX5_tell_0 : decode cX5_tell 0 = .ok (.aload_n 0, 1) := by decide +kernel
theorem dX5_tell_1 : decode cX5_tell 1 = .ok (.aload_n 0, 1) := by decide +kernel
theorem dX5_tell_2 : decode cX5_tell 2 = .ok (.getfield 37, 3) := by decide +kernel
theorem dX5_tell_5 : decode cX5_tell 5 = .ok (.iload_n 1, 1) := by decide +kernel
theorem dX5_tell_6 : decode cX5_tell 6 = .ok (.invokevirtual 161, 3) := by decide +kernel
theorem dX5_tell_9 : decode cX5_tell 9 = .ok (.invokevirtual 66, 3) := by decide +kernel
theorem dX5_tell_12 : decode cX5_tell 12 = .ok (.ireturn, 1) := by decide +kernel
theorem dX5_check_0 : decode cX5_check 0 = .ok (.aload_n 0, 1) := by decide +kernel
theorem dX5_check_1 : decode cX5_check 1 = .ok (.getfield 37, 3) := by decide +kernel
theorem dX5_check_4 : decode cX5_check 4 = .ok (.invokevirtual 164, 3) := by decide +kernel
theorem dX5_check_7 : decode cX5_check 7 = .ok (.istore_n 2, 1) := by decide +kernel
theorem dX5_check_8 : decode cX5_check 8 = .ok (.aload_n 0, 1) := by decide +kernel
theorem dX5_check_9 : decode cX5_check 9 = .ok (.getfield 12, 3) := by decide +kernel
theorem dX5_check_12 : decode cX5_check 12 = .ok (.iload_n 1, 1) := by decide +kernel
theorem dX5_check_13 : decode cX5_check 13 = .ok (.invokevirtual 77, 3) := by decide +kernel
theorem dX5_check_16 : decode cX5_check 16 = .ok (.ifnonnull 10, 3) := by decide +kernel
theorem dX5_check_19 : decode cX5_check 19 = .ok (.aload_n 0, 1) := by decide +kernel
theorem dX5_check_20 : decode cX5_check 20 = .ok (.ldc 65, 2) := by decide +kernel
theorem dX5_check_22 : decode cX5_check 22 = .ok (.invokevirtual 66, 3) := by decide +kernel
theorem dX5_check_25 : decode cX5_check 25 = .ok (.ireturn, 1) := by decide +kernel
theorem dX5_check_26 : decode cX5_check 26 = .ok (.aload_n 0, 1) := by decide +kernel
theorem dX5_check_27 : decode cX5_check 27 = .ok (.getfield 21, 3) := by decide +kernel
theorem dX5_check_30 : decode cX5_check 30 = .ok (.iload_n 1, 1) := by decide +kernel
theorem dX5_check_31 : decode cX5_check 31 = .ok (.aload_n 0, 1) := by decide +kernel
theorem dX5_check_32 : decode cX5_check 32 = .ok (.getfield 49, 3) := by decide +kernel
theorem dX5_check_35 : decode cX5_check 35 = .ok (.invokevirtual 111, 3) := by decide +kernel
theorem dX5_check_38 : decode cX5_check 38 = .ok (.aload_n 0, 1) := by decide +kernel
theorem dX5_check_39 : decode cX5_check 39 = .ok (.aload_n 0, 1) := by decide +kernel
theorem dX5_check_40 : decode cX5_check 40 = .ok (.getfield 37, 3) := by decide +kernel
theorem dX5_check_43 : decode cX5_check 43 = .ok (.iload_n 2, 1) := by decide +kernel
theorem dX5_check_44 : decode cX5_check 44 = .ok (.aload_n 0, 1) := by decide +kernel
theorem dX5_check_45 : decode cX5_check 45 = .ok (.getfield 21, 3) := by decide +kernel
theorem dX5_check_48 : decode cX5_check 48 = .ok (.invokevirtual 167, 3) := by decide +kernel
theorem dX5_check_51 : decode cX5_check 51 = .ok (.invokevirtual 66, 3) := by decide +kernel
theorem dX5_check_54 : decode cX5_check 54 = .ok (.ireturn, 1) := by decide +kernel
theorem dX5_count_0 : decode cX5_count 0 = .ok (.iload_n 1, 1) := by decide +kernel
theorem dX5_count_1 : decode cX5_count 1 = .ok (.tableswitch 111 0 5 #[39, 51, 63, 75, 87, 99], 39) := by decide +kernel
theorem dX5_count_40 : decode cX5_count 40 = .ok (.aload_n 0, 1) := by decide +kernel
theorem dX5_count_41 : decode cX5_count 41 = .ok (.aload_n 0, 1) := by decide +kernel
theorem dX5_count_42 : decode cX5_count 42 = .ok (.getfield 12, 3) := by decide +kernel
theorem dX5_count_45 : decode cX5_count 45 = .ok (.getfield 171, 3) := by decide +kernel
theorem dX5_count_48 : decode cX5_count 48 = .ok (.invokevirtual 66, 3) := by decide +kernel
theorem dX5_count_51 : decode cX5_count 51 = .ok (.ireturn, 1) := by decide +kernel
theorem dX5_count_52 : decode cX5_count 52 = .ok (.aload_n 0, 1) := by decide +kernel
theorem dX5_count_53 : decode cX5_count 53 = .ok (.aload_n 0, 1) := by decide +kernel
theorem dX5_count_54 : decode cX5_count 54 = .ok (.getfield 12, 3) := by decide +kernel
theorem dX5_count_57 : decode cX5_count 57 = .ok (.getfield 174, 3) := by decide +kernel
theorem dX5_count_60 : decode cX5_count 60 = .ok (.invokevirtual 66, 3) := by decide +kernel
theorem dX5_count_63 : decode cX5_count 63 = .ok (.ireturn, 1) := by decide +kernel
theorem dX5_count_64 : decode cX5_count 64 = .ok (.aload_n 0, 1) := by decide +kernel
theorem dX5_count_65 : decode cX5_count 65 = .ok (.aload_n 0, 1) := by decide +kernel
theorem dX5_count_66 : decode cX5_count 66 = .ok (.getfield 12, 3) := by decide +kernel
theorem dX5_count_69 : decode cX5_count 69 = .ok (.invokevirtual 177, 3) := by decide +kernel
theorem dX5_count_72 : decode cX5_count 72 = .ok (.invokevirtual 66, 3) := by decide +kernel
theorem dX5_count_75 : decode cX5_count 75 = .ok (.ireturn, 1) := by decide +kernel
theorem dX5_count_76 : decode cX5_count 76 = .ok (.aload_n 0, 1) := by decide +kernel
theorem dX5_count_77 : decode cX5_count 77 = .ok (.aload_n 0, 1) := by decide +kernel
theorem dX5_count_78 : decode cX5_count 78 = .ok (.getfield 12, 3) := by decide +kernel
theorem dX5_count_81 : decode cX5_count 81 = .ok (.invokevirtual 180, 3) := by decide +kernel
theorem dX5_count_84 : decode cX5_count 84 = .ok (.invokevirtual 66, 3) := by decide +kernel
theorem dX5_count_87 : decode cX5_count 87 = .ok (.ireturn, 1) := by decide +kernel
theorem dX5_count_88 : decode cX5_count 88 = .ok (.aload_n 0, 1) := by decide +kernel
theorem dX5_count_89 : decode cX5_count 89 = .ok (.aload_n 0, 1) := by decide +kernel
theorem dX5_count_90 : decode cX5_count 90 = .ok (.getfield 37, 3) := by decide +kernel
theorem dX5_count_93 : decode cX5_count 93 = .ok (.getfield 183, 3) := by decide +kernel
theorem dX5_count_96 : decode cX5_count 96 = .ok (.invokevirtual 66, 3) := by decide +kernel
theorem dX5_count_99 : decode cX5_count 99 = .ok (.ireturn, 1) := by decide +kernel
theorem dX5_count_100 : decode cX5_count 100 = .ok (.aload_n 0, 1) := by decide +kernel
theorem dX5_count_101 : decode cX5_count 101 = .ok (.aload_n 0, 1) := by decide +kernel
theorem dX5_count_102 : decode cX5_count 102 = .ok (.getfield 12, 3) := by decide +kernel
theorem dX5_count_105 : decode cX5_count 105 = .ok (.invokevirtual 186, 3) := by decide +kernel
theorem dX5_count_108 : decode cX5_count 108 = .ok (.invokevirtual 66, 3) := by decide +kernel
theorem dX5_count_111 : decode cX5_count 111 = .ok (.ireturn, 1) := by decide +kernel
theorem dX5_count_112 : decode cX5_count 112 = .ok (.aload_n 0, 1) := by decide +kernel
theorem dX5_count_113 : decode cX5_count 113 = .ok (.ldc 65, 2) := by decide +kernel
theorem dX5_count_115 : decode cX5_count 115 = .ok (.invokevirtual 66, 3) := by decide +kernel
theorem dX5_count_118 : decode cX5_count 118 = .ok (.ireturn, 1) := by decide +kernel
theorem dX5_found_0 : decode cX5_found 0 = .ok (.iload_n 1, 1) := by decide +kernel
theorem dX5_found_1 : decode cX5_found 1 = .ok (.iconst 1, 1) := by decide +kernel
theorem dX5_found_2 : decode cX5_found 2 = .ok (.iconst 5, 1) := by decide +kernel
theorem dX5_found_3 : decode cX5_found 3 = .ok (.invokestatic 61, 3) := by decide +kernel
theorem dX5_found_6 : decode cX5_found 6 = .ok (.ifCond .ne 10, 3) := by decide +kernel
theorem dX5_found_9 : decode cX5_found 9 = .ok (.aload_n 0, 1) := by decide +kernel
theorem dX5_found_10 : decode cX5_found 10 = .ok (.ldc 65, 2) := by decide +kernel
theorem dX5_found_12 : decode cX5_found 12 = .ok (.invokevirtual 66, 3) := by decide +kernel
theorem dX5_found_15 : decode cX5_found 15 = .ok (.ireturn, 1) := by decide +kernel
theorem dX5_found_16 : decode cX5_found 16 = .ok (.aload_n 0, 1) := by decide +kernel
theorem dX5_found_17 : decode cX5_found 17 = .ok (.getfield 41, 3) := by decide +kernel
theorem dX5_found_20 : decode cX5_found 20 = .ok (.iload_n 1, 1) := by decide +kernel
theorem dX5_found_21 : decode cX5_found 21 = .ok (.iaload, 1) := by decide +kernel
theorem dX5_found_22 : decode cX5_found 22 = .ok (.ireturn, 1) := by decide +kernel
theorem dX5_within_0 : decode cX5_within 0 = .ok (.iload_n 1, 1) := by decide +kernel
theorem dX5_within_1 : decode cX5_within 1 = .ok (.iload_n 0, 1) := by decide +kernel
theorem dX5_within_2 : decode cX5_within 2 = .ok (.if_icmp .gt 12, 3) := by decide +kernel
theorem dX5_within_5 : decode cX5_within 5 = .ok (.iload_n 0, 1) := by decide +kernel
theorem dX5_within_6 : decode cX5_within 6 = .ok (.iload_n 2, 1) := by decide +kernel
theorem dX5_within_7 : decode cX5_within 7 = .ok (.if_icmp .gt 7, 3) := by decide +kernel
theorem dX5_within_10 : decode cX5_within 10 = .ok (.iconst 1, 1) := by decide +kernel
theorem dX5_within_11 : decode cX5_within 11 = .ok (.goto 4, 3) := by decide +kernel
theorem dX5_within_14 : decode cX5_within 14 = .ok (.iconst 0, 1) := by decide +kernel
theorem dX5_within_15 : decode cX5_within 15 = .ok (.ireturn, 1) := by decide +kernel
theorem dX5_answer_0 : decode cX5_answer 0 = .ok (.iload_n 1, 1) := by decide +kernel
theorem dX5_answer_1 : decode cX5_answer 1 = .ok (.ldc 90, 2) := by decide +kernel
theorem dX5_answer_3 : decode cX5_answer 3 = .ok (.ldc 65, 2) := by decide +kernel
theorem dX5_answer_5 : decode cX5_answer 5 = .ok (.invokestatic 61, 3) := by decide +kernel
theorem dX5_answer_8 : decode cX5_answer 8 = .ok (.ifCond .eq 16, 3) := by decide +kernel
theorem dX5_answer_11 : decode cX5_answer 11 = .ok (.aload_n 0, 1) := by decide +kernel
theorem dX5_answer_12 : decode cX5_answer 12 = .ok (.getfield 41, 3) := by decide +kernel
theorem dX5_answer_15 : decode cX5_answer 15 = .ok (.ldc 189, 2) := by decide +kernel
theorem dX5_answer_17 : decode cX5_answer 17 = .ok (.iload_n 1, 1) := by decide +kernel
theorem dX5_answer_18 : decode cX5_answer 18 = .ok (.isub, 1) := by decide +kernel
theorem dX5_answer_19 : decode cX5_answer 19 = .ok (.dup2, 1) := by decide +kernel
theorem dX5_answer_20 : decode cX5_answer 20 = .ok (.iaload, 1) := by decide +kernel
theorem dX5_answer_21 : decode cX5_answer 21 = .ok (.iconst 1, 1) := by decide +kernel
theorem dX5_answer_22 : decode cX5_answer 22 = .ok (.iadd, 1) := by decide +kernel
theorem dX5_answer_23 : decode cX5_answer 23 = .ok (.iastore, 1) := by decide +kernel
theorem dX5_answer_24 : decode cX5_answer 24 = .ok (.iload_n 1, 1) := by decide +kernel
theorem dX5_answer_25 : decode cX5_answer 25 = .ok (.ireturn, 1) := by decide +kernel
theorem dX5_plan_0 : decode cX5_plan 0 = .ok (.aload_n 0, 1) := by decide +kernel
theorem dX5_plan_1 : decode cX5_plan 1 = .ok (.getfield 21, 3) := by decide +kernel
theorem dX5_plan_4 : decode cX5_plan 4 = .ok (.iload_n 1, 1) := by decide +kernel
theorem dX5_plan_5 : decode cX5_plan 5 = .ok (.aload_n 0, 1) := by decide +kernel
theorem dX5_plan_6 : decode cX5_plan 6 = .ok (.getfield 49, 3) := by decide +kernel
theorem dX5_plan_9 : decode cX5_plan 9 = .ok (.invokevirtual 111, 3) := by decide +kernel
theorem dX5_plan_12 : decode cX5_plan 12 = .ok (.aload_n 0, 1) := by decide +kernel
theorem dX5_plan_13 : decode cX5_plan 13 = .ok (.getfield 30, 3) := by decide +kernel
theorem dX5_plan_16 : decode cX5_plan 16 = .ok (.aload_n 0, 1) := by decide +kernel
theorem dX5_plan_17 : decode cX5_plan 17 = .ok (.getfield 52, 3) := by decide +kernel
theorem dX5_plan_20 : decode cX5_plan 20 = .ok (.aload_n 0, 1) := by decide +kernel
theorem dX5_plan_21 : decode cX5_plan 21 = .ok (.getfield 55, 3) := by decide +kernel
theorem dX5_plan_24 : decode cX5_plan 24 = .ok (.aload_n 2, 1) := by decide +kernel
theorem dX5_plan_25 : decode cX5_plan 25 = .ok (.aload_n 0, 1) := by decide +kernel
theorem dX5_plan_26 : decode cX5_plan 26 = .ok (.getfield 58, 3) := by decide +kernel
theorem dX5_plan_29 : decode cX5_plan 29 = .ok (.invokevirtual 190, 3) := by decide +kernel
theorem dX5_plan_32 : decode cX5_plan 32 = .ok (.invokevirtual 193, 3) := by decide +kernel
theorem dX5_plan_35 : decode cX5_plan 35 = .ok (.return_, 1) := by decide +kernel
theorem dX6_init_0 : decode cX6_init 0 = .ok (.aload_n 0, 1) := by decide +kernel
theorem dX6_init_1 : decode cX6_init 1 = .ok (.invokespecial 1, 3) := by decide +kernel
theorem dX6_init_4 : decode cX6_init 4 = .ok (.aload_n 0, 1) := by decide +kernel
theorem dX6_init_5 : decode cX6_init 5 = .ok (.bipush 8, 2) := by decide +kernel
theorem dX6_init_7 : decode cX6_init 7 = .ok (.putfield 7, 3) := by decide +kernel
theorem dX6_init_10 : decode cX6_init 10 = .ok (.aload_n 0, 1) := by decide +kernel
theorem dX6_init_11 : decode cX6_init 11 = .ok (.bipush 40, 2) := by decide +kernel
theorem dX6_init_13 : decode cX6_init 13 = .ok (.putfield 13, 3) := by decide +kernel
theorem dX6_init_16 : decode cX6_init 16 = .ok (.aload_n 0, 1) := by decide +kernel
theorem dX6_init_17 : decode cX6_init 17 = .ok (.iconst 4, 1) := by decide +kernel
theorem dX6_init_18 : decode cX6_init 18 = .ok (.putfield 16, 3) := by decide +kernel
theorem dX6_init_21 : decode cX6_init 21 = .ok (.aload_n 0, 1) := by decide +kernel
theorem dX6_init_22 : decode cX6_init 22 = .ok (.iconst 5, 1) := by decide +kernel
theorem dX6_init_23 : decode cX6_init 23 = .ok (.putfield 19, 3) := by decide +kernel
theorem dX6_init_26 : decode cX6_init 26 = .ok (.aload_n 0, 1) := by decide +kernel
theorem dX6_init_27 : decode cX6_init 27 = .ok (.bipush 40, 2) := by decide +kernel
theorem dX6_init_29 : decode cX6_init 29 = .ok (.newarray .int, 2) := by decide +kernel
theorem dX6_init_31 : decode cX6_init 31 = .ok (.putfield 22, 3) := by decide +kernel
theorem dX6_init_34 : decode cX6_init 34 = .ok (.aload_n 0, 1) := by decide +kernel
theorem dX6_init_35 : decode cX6_init 35 = .ok (.bipush 40, 2) := by decide +kernel
theorem dX6_init_37 : decode cX6_init 37 = .ok (.newarray .int, 2) := by decide +kernel
theorem dX6_init_39 : decode cX6_init 39 = .ok (.putfield 26, 3) := by decide +kernel
theorem dX6_init_42 : decode cX6_init 42 = .ok (.aload_n 0, 1) := by decide +kernel
theorem dX6_init_43 : decode cX6_init 43 = .ok (.bipush 6, 2) := by decide +kernel
theorem dX6_init_45 : decode cX6_init 45 = .ok (.newarray .int, 2) := by decide +kernel
theorem dX6_init_47 : decode cX6_init 47 = .ok (.putfield 29, 3) := by decide +kernel
theorem dX6_init_50 : decode cX6_init 50 = .ok (.aload_n 0, 1) := by decide +kernel
theorem dX6_init_51 : decode cX6_init 51 = .ok (.bipush 6, 2) := by decide +kernel
theorem dX6_init_53 : decode cX6_init 53 = .ok (.newarray .int, 2) := by decide +kernel
theorem dX6_init_55 : decode cX6_init 55 = .ok (.putfield 32, 3) := by decide +kernel
theorem dX6_init_58 : decode cX6_init 58 = .ok (.aload_n 0, 1) := by decide +kernel
theorem dX6_init_59 : decode cX6_init 59 = .ok (.bipush 6, 2) := by decide +kernel
theorem dX6_init_61 : decode cX6_init 61 = .ok (.newarray .int, 2) := by decide +kernel
theorem dX6_init_63 : decode cX6_init 63 = .ok (.putfield 35, 3) := by decide +kernel
theorem dX6_init_66 : decode cX6_init 66 = .ok (.aload_n 0, 1) := by decide +kernel
theorem dX6_init_67 : decode cX6_init 67 = .ok (.sipush 240, 3) := by decide +kernel
theorem dX6_init_70 : decode cX6_init 70 = .ok (.newarray .int, 2) := by decide +kernel
theorem dX6_init_72 : decode cX6_init 72 = .ok (.putfield 38, 3) := by decide +kernel
theorem dX6_init_75 : decode cX6_init 75 = .ok (.aload_n 0, 1) := by decide +kernel
theorem dX6_init_76 : decode cX6_init 76 = .ok (.sipush 240, 3) := by decide +kernel
theorem dX6_init_79 : decode cX6_init 79 = .ok (.newarray .int, 2) := by decide +kernel
theorem dX6_init_81 : decode cX6_init 81 = .ok (.putfield 41, 3) := by decide +kernel
theorem dX6_init_84 : decode cX6_init 84 = .ok (.aload_n 0, 1) := by decide +kernel
theorem dX6_init_85 : decode cX6_init 85 = .ok (.bipush 40, 2) := by decide +kernel
theorem dX6_init_87 : decode cX6_init 87 = .ok (.newarray .int, 2) := by decide +kernel
theorem dX6_init_89 : decode cX6_init 89 = .ok (.putfield 44, 3) := by decide +kernel
theorem dX6_init_92 : decode cX6_init 92 = .ok (.aload_n 0, 1) := by decide +kernel
theorem dX6_init_93 : decode cX6_init 93 = .ok (.bipush 6, 2) := by decide +kernel
theorem dX6_init_95 : decode cX6_init 95 = .ok (.newarray .int, 2) := by decide +kernel
theorem dX6_init_97 : decode cX6_init 97 = .ok (.putfield 47, 3) := by decide +kernel
theorem dX6_init_100 : decode cX6_init 100 = .ok (.aload_n 0, 1) := by decide +kernel
theorem dX6_init_101 : decode cX6_init 101 = .ok (.bipush 40, 2) := by decide +kernel
theorem dX6_init_103 : decode cX6_init 103 = .ok (.newarray .int, 2) := by decide +kernel
theorem dX6_init_105 : decode cX6_init 105 = .ok (.putfield 50, 3) := by decide +kernel
theorem dX6_init_108 : decode cX6_init 108 = .ok (.aload_n 0, 1) := by decide +kernel
theorem dX6_init_109 : decode cX6_init 109 = .ok (.bipush 41, 2) := by decide +kernel
theorem dX6_init_111 : decode cX6_init 111 = .ok (.newarray .int, 2) := by decide +kernel
theorem dX6_init_113 : decode cX6_init 113 = .ok (.putfield 53, 3) := by decide +kernel
theorem dX6_init_116 : decode cX6_init 116 = .ok (.aload_n 0, 1) := by decide +kernel
theorem dX6_init_117 : decode cX6_init 117 = .ok (.bipush 41, 2) := by decide +kernel
theorem dX6_init_119 : decode cX6_init 119 = .ok (.newarray .int, 2) := by decide +kernel
theorem dX6_init_121 : decode cX6_init 121 = .ok (.putfield 56, 3) := by decide +kernel
theorem dX6_init_124 : decode cX6_init 124 = .ok (.aload_n 0, 1) := by decide +kernel
theorem dX6_init_125 : decode cX6_init 125 = .ok (.bipush 41, 2) := by decide +kernel
theorem dX6_init_127 : decode cX6_init 127 = .ok (.newarray .int, 2) := by decide +kernel
theorem dX6_init_129 : decode cX6_init 129 = .ok (.putfield 59, 3) := by decide +kernel
theorem dX6_init_132 : decode cX6_init 132 = .ok (.aload_n 0, 1) := by decide +kernel
theorem dX6_init_133 : decode cX6_init 133 = .ok (.bipush 6, 2) := by decide +kernel
theorem dX6_init_135 : decode cX6_init 135 = .ok (.newarray .int, 2) := by decide +kernel
theorem dX6_init_137 : decode cX6_init 137 = .ok (.putfield 62, 3) := by decide +kernel
theorem dX6_init_140 : decode cX6_init 140 = .ok (.aload_n 0, 1) := by decide +kernel
theorem dX6_init_141 : decode cX6_init 141 = .ok (.sipush 240, 3) := by decide +kernel
theorem dX6_init_144 : decode cX6_init 144 = .ok (.newarray .int, 2) := by decide +kernel
theorem dX6_init_146 : decode cX6_init 146 = .ok (.putfield 65, 3) := by decide +kernel
theorem dX6_init_149 : decode cX6_init 149 = .ok (.aload_n 0, 1) := by decide +kernel
theorem dX6_init_150 : decode cX6_init 150 = .ok (.sipush 240, 3) := by decide +kernel
theorem dX6_init_153 : decode cX6_init 153 = .ok (.newarray .int, 2) := by decide +kernel
theorem dX6_init_155 : decode cX6_init 155 = .ok (.putfield 68, 3) := by decide +kernel
theorem dX6_init_158 : decode cX6_init 158 = .ok (.aload_n 0, 1) := by decide +kernel
theorem dX6_init_159 : decode cX6_init 159 = .ok (.sipush 240, 3) := by decide +kernel
theorem dX6_init_162 : decode cX6_init 162 = .ok (.newarray .int, 2) := by decide +kernel
theorem dX6_init_164 : decode cX6_init 164 = .ok (.putfield 71, 3) := by decide +kernel
theorem dX6_init_167 : decode cX6_init 167 = .ok (.aload_n 0, 1) := by decide +kernel
theorem dX6_init_168 : decode cX6_init 168 = .ok (.sipush 240, 3) := by decide +kernel
theorem dX6_init_171 : decode cX6_init 171 = .ok (.newarray .int, 2) := by decide +kernel
theorem dX6_init_173 : decode cX6_init 173 = .ok (.putfield 74, 3) := by decide +kernel
theorem dX6_init_176 : decode cX6_init 176 = .ok (.aload_n 0, 1) := by decide +kernel
theorem dX6_init_177 : decode cX6_init 177 = .ok (.bipush 40, 2) := by decide +kernel
theorem dX6_init_179 : decode cX6_init 179 = .ok (.newarray .boolean, 2) := by decide +kernel
theorem dX6_init_181 : decode cX6_init 181 = .ok (.putfield 77, 3) := by decide +kernel
theorem dX6_init_184 : decode cX6_init 184 = .ok (.return_, 1) := by decide +kernel
theorem dX6_in_0 : decode cX6_in 0 = .ok (.iload_n 0, 1) := by decide +kernel
theorem dX6_in_1 : decode cX6_in 1 = .ok (.iload_n 1, 1) := by decide +kernel
theorem dX6_in_2 : decode cX6_in 2 = .ok (.if_icmp .lt 12, 3) := by decide +kernel
theorem dX6_in_5 : decode cX6_in 5 = .ok (.iload_n 0, 1) := by decide +kernel
theorem dX6_in_6 : decode cX6_in 6 = .ok (.iload_n 2, 1) := by decide +kernel
theorem dX6_in_7 : decode cX6_in 7 = .ok (.if_icmp .gt 7, 3) := by decide +kernel
theorem dX6_in_10 : decode cX6_in 10 = .ok (.iconst 1, 1) := by decide +kernel
theorem dX6_in_11 : decode cX6_in 11 = .ok (.goto 4, 3) := by decide +kernel
theorem dX6_in_14 : decode cX6_in 14 = .ok (.iconst 0, 1) := by decide +kernel
theorem dX6_in_15 : decode cX6_in 15 = .ok (.ireturn, 1) := by decide +kernel
theorem dX6_finds_0 : decode cX6_finds 0 = .ok (.aload_n 0, 1) := by decide +kernel
theorem dX6_finds_1 : decode cX6_finds 1 = .ok (.getfield 47, 3) := by decide +kernel
theorem dX6_finds_4 : decode cX6_finds 4 = .ok (.iload_n 1, 1) := by decide +kernel
theorem dX6_finds_5 : decode cX6_finds 5 = .ok (.dup2, 1) := by decide +kernel
theorem dX6_finds_6 : decode cX6_finds 6 = .ok (.iaload, 1) := by decide +kernel
theorem dX6_finds_7 : decode cX6_finds 7 = .ok (.iconst 1, 1) := by decide +kernel
theorem dX6_finds_8 : decode cX6_finds 8 = .ok (.iadd, 1) := by decide +kernel
theorem dX6_finds_9 : decode cX6_finds 9 = .ok (.iastore, 1) := by decide +kernel
theorem dX6_finds_10 : decode cX6_finds 10 = .ok (.ldc 81, 2) := by decide +kernel
theorem dX6_finds_12 : decode cX6_finds 12 = .ok (.iload_n 1, 1) := by decide +kernel
theorem dX6_finds_13 : decode cX6_finds 13 = .ok (.isub, 1) := by decide +kernel
theorem dX6_finds_14 : decode cX6_finds 14 = .ok (.ireturn, 1) := by decide +kernel
theorem dX6_isBar_0 : decode cX6_isBar 0 = .ok (.iload_n 1, 1) := by decide +kernel
theorem dX6_isBar_1 : decode cX6_isBar 1 = .ok (.iconst 0, 1) := by decide +kernel
theorem dX6_isBar_2 : decode cX6_isBar 2 = .ok (.aload_n 0, 1) := by decide +kernel
theorem dX6_isBar_3 : decode cX6_isBar 3 = .ok (.getfield 82, 3) := by decide +kernel
theorem dX6_isBar_6 : decode cX6_isBar 6 = .ok (.iconst 1, 1) := by decide +kernel
theorem dX6_isBar_7 : decode cX6_isBar 7 = .ok (.isub, 1) := by decide +kernel
theorem dX6_isBar_8 : decode cX6_isBar 8 = .ok (.invokestatic 85, 3) := by decide +kernel
theorem dX6_isBar_11 : decode cX6_isBar 11 = .ok (.ireturn, 1) := by decide +kernel
theorem dX6_isVoice_0 : decode cX6_isVoice 0 = .ok (.iload_n 1, 1) := by decide +kernel
theorem dX6_isVoice_1 : decode cX6_isVoice 1 = .ok (.iconst 0, 1) := by decide +kernel
theorem dX6_isVoice_2 : decode cX6_isVoice 2 = .ok (.aload_n 0, 1) := by decide +kernel
theorem dX6_isVoice_3 : decode cX6_isVoice 3 = .ok (.getfield 89, 3) := by decide +kernel
theorem dX6_isVoice_6 : decode cX6_isVoice 6 = .ok (.iconst 1, 1) := by decide +kernel
theorem dX6_isVoice_7 : decode cX6_isVoice 7 = .ok (.isub, 1) := by decide +kernel
theorem dX6_isVoice_8 : decode cX6_isVoice 8 = .ok (.invokestatic 85, 3) := by decide +kernel
theorem dX6_isVoice_11 : decode cX6_isVoice 11 = .ok (.ireturn, 1) := by decide +kernel
theorem dX6_isCut_0 : decode cX6_isCut 0 = .ok (.aload_n 0, 1) := by decide +kernel
theorem dX6_isCut_1 : decode cX6_isCut 1 = .ok (.getfield 26, 3) := by decide +kernel
theorem dX6_isCut_4 : decode cX6_isCut 4 = .ok (.iload_n 1, 1) := by decide +kernel
theorem dX6_isCut_5 : decode cX6_isCut 5 = .ok (.iaload, 1) := by decide +kernel
theorem dX6_isCut_6 : decode cX6_isCut 6 = .ok (.iconst 3, 1) := by decide +kernel
theorem dX6_isCut_7 : decode cX6_isCut 7 = .ok (.if_icmp .le 7, 3) := by decide +kernel
theorem dX6_isCut_10 : decode cX6_isCut 10 = .ok (.iconst 1, 1) := by decide +kernel
theorem dX6_isCut_11 : decode cX6_isCut 11 = .ok (.goto 4, 3) := by decide +kernel
theorem dX6_isCut_14 : decode cX6_isCut 14 = .ok (.iconst 0, 1) := by decide +kernel
theorem dX6_isCut_15 : decode cX6_isCut 15 = .ok (.ireturn, 1) := by decide +kernel
theorem dX6_bar_0 : decode cX6_bar 0 = .ok (.iload_n 1, 1) := by decide +kernel
theorem dX6_bar_1 : decode cX6_bar 1 = .ok (.iconst 1, 1) := by decide +kernel
theorem dX6_bar_2 : decode cX6_bar 2 = .ok (.bipush 60, 2) := by decide +kernel
theorem dX6_bar_4 : decode cX6_bar 4 = .ok (.invokestatic 85, 3) := by decide +kernel
theorem dX6_bar_7 : decode cX6_bar 7 = .ok (.ifCond .ne 9, 3) := by decide +kernel
theorem dX6_bar_10 : decode cX6_bar 10 = .ok (.aload_n 0, 1) := by decide +kernel
theorem dX6_bar_11 : decode cX6_bar 11 = .ok (.iconst 1, 1) := by decide +kernel
theorem dX6_bar_12 : decode cX6_bar 12 = .ok (.invokevirtual 92, 3) := by decide +kernel
theorem dX6_bar_15 : decode cX6_bar 15 = .ok (.ireturn, 1) := by decide +kernel
theorem dX6_bar_16 : decode cX6_bar 16 = .ok (.aload_n 0, 1) := by decide +kernel
end
section
theorem dX6_bar_17 : decode cX6_bar 17 = .ok (.getfield 82, 3) := by decide +kernel
theorem dX6_bar_20 : decode cX6_bar 20 = .ok (.bipush 40, 2) := by decide +kernel
theorem dX6_bar_22 : decode cX6_bar 22 = .ok (.if_icmp .ne 9, 3) := by decide +kernel
theorem dX6_bar_25 : decode cX6_bar 25 = .ok (.aload_n 0, 1) := by decide +kernel
theorem dX6_bar_26 : decode cX6_bar 26 = .ok (.iconst 4, 1) := by decide +kernel
theorem dX6_bar_27 : decode cX6_bar 27 = .ok (.invokevirtual 92, 3) := by decide +kernel
theorem dX6_bar_30 : decode cX6_bar 30 = .ok (.ireturn, 1) := by decide +kernel
theorem dX6_bar_31 : decode cX6_bar 31 = .ok (.aload_n 0, 1) := by decide +kernel
theorem dX6_bar_32 : decode cX6_bar 32 = .ok (.getfield 22, 3) := by decide +kernel
theorem dX6_bar_35 : decode cX6_bar 35 = .ok (.aload_n 0, 1) := by decide +kernel
theorem dX6_bar_36 : decode cX6_bar 36 = .ok (.getfield 82, 3) := by decide +kernel
theorem dX6_bar_39 : decode cX6_bar 39 = .ok (.iload_n 1, 1) := by decide +kernel
theorem dX6_bar_40 : decode cX6_bar 40 = .ok (.iastore, 1) := by decide +kernel
theorem dX6_bar_41 : decode cX6_bar 41 = .ok (.aload_n 0, 1) := by decide +kernel
theorem dX6_bar_42 : decode cX6_bar 42 = .ok (.getfield 26, 3) := by decide +kernel
theorem dX6_bar_45 : decode cX6_bar 45 = .ok (.aload_n 0, 1) := by decide +kernel
theorem dX6_bar_46 : decode cX6_bar 46 = .ok (.getfield 82, 3) := by decide +kernel
theorem dX6_bar_49 : decode cX6_bar 49 = .ok (.iconst 0, 1) := by decide +kernel
theorem dX6_bar_50 : decode cX6_bar 50 = .ok (.iastore, 1) := by decide +kernel
theorem dX6_bar_51 : decode cX6_bar 51 = .ok (.aload_n 0, 1) := by decide +kernel
theorem dX6_bar_52 : decode cX6_bar 52 = .ok (.dup, 1) := by decide +kernel
theorem dX6_bar_53 : decode cX6_bar 53 = .ok (.getfield 82, 3) := by decide +kernel
theorem dX6_bar_56 : decode cX6_bar 56 = .ok (.iconst 1, 1) := by decide +kernel
theorem dX6_bar_57 : decode cX6_bar 57 = .ok (.iadd, 1) := by decide +kernel
theorem dX6_bar_58 : decode cX6_bar 58 = .ok (.putfield 82, 3) := by decide +kernel
theorem dX6_bar_61 : decode cX6_bar 61 = .ok (.aload_n 0, 1) := by decide +kernel
theorem dX6_bar_62 : decode cX6_bar 62 = .ok (.getfield 82, 3) := by decide +kernel
theorem dX6_bar_65 : decode cX6_bar 65 = .ok (.iconst 1, 1) := by decide +kernel
theorem dX6_bar_66 : decode cX6_bar 66 = .ok (.isub, 1) := by decide +kernel
theorem dX6_bar_67 : decode cX6_bar 67 = .ok (.ireturn, 1) := by decide +kernel
theorem dX6_voice_0 : decode cX6_voice 0 = .ok (.iload_n 1, 1) := by decide +kernel
theorem dX6_voice_1 : decode cX6_voice 1 = .ok (.iconst 0, 1) := by decide +kernel
theorem dX6_voice_2 : decode cX6_voice 2 = .ok (.iconst 2, 1) := by decide +kernel
theorem dX6_voice_3 : decode cX6_voice 3 = .ok (.invokestatic 85, 3) := by decide +kernel
theorem dX6_voice_6 : decode cX6_voice 6 = .ok (.ifCond .eq 26, 3) := by decide +kernel
theorem dX6_voice_9 : decode cX6_voice 9 = .ok (.iload_n 1, 1) := by decide +kernel
theorem dX6_voice_10 : decode cX6_voice 10 = .ok (.iconst 2, 1) := by decide +kernel
theorem dX6_voice_11 : decode cX6_voice 11 = .ok (.if_icmp .ne 17, 3) := by decide +kernel
theorem dX6_voice_14 : decode cX6_voice 14 = .ok (.iload_n 2, 1) := by decide +kernel
theorem dX6_voice_15 : decode cX6_voice 15 = .ok (.bipush (-11), 2) := by decide +kernel
theorem dX6_voice_17 : decode cX6_voice 17 = .ok (.bipush 11, 2) := by decide +kernel
theorem dX6_voice_19 : decode cX6_voice 19 = .ok (.invokestatic 85, 3) := by decide +kernel
theorem dX6_voice_22 : decode cX6_voice 22 = .ok (.ifCond .ne 16, 3) := by decide +kernel
theorem dX6_voice_25 : decode cX6_voice 25 = .ok (.goto 7, 3) := by decide +kernel
theorem dX6_voice_28 : decode cX6_voice 28 = .ok (.iload_n 2, 1) := by decide +kernel
theorem dX6_voice_29 : decode cX6_voice 29 = .ok (.ifCond .eq 9, 3) := by decide +kernel
theorem dX6_voice_32 : decode cX6_voice 32 = .ok (.aload_n 0, 1) := by decide +kernel
theorem dX6_voice_33 : decode cX6_voice 33 = .ok (.iconst 1, 1) := by decide +kernel
theorem dX6_voice_34 : decode cX6_voice 34 = .ok (.invokevirtual 92, 3) := by decide +kernel
theorem dX6_voice_37 : decode cX6_voice 37 = .ok (.ireturn, 1) := by decide +kernel
theorem dX6_voice_38 : decode cX6_voice 38 = .ok (.aload_n 0, 1) := by decide +kernel
theorem dX6_voice_39 : decode cX6_voice 39 = .ok (.getfield 89, 3) := by decide +kernel
theorem dX6_voice_42 : decode cX6_voice 42 = .ok (.bipush 6, 2) := by decide +kernel
theorem dX6_voice_44 : decode cX6_voice 44 = .ok (.if_icmp .ne 9, 3) := by decide +kernel
theorem dX6_voice_47 : decode cX6_voice 47 = .ok (.aload_n 0, 1) := by decide +kernel
theorem dX6_voice_48 : decode cX6_voice 48 = .ok (.iconst 4, 1) := by decide +kernel
theorem dX6_voice_49 : decode cX6_voice 49 = .ok (.invokevirtual 92, 3) := by decide +kernel
theorem dX6_voice_52 : decode cX6_voice 52 = .ok (.ireturn, 1) := by decide +kernel
theorem dX6_voice_53 : decode cX6_voice 53 = .ok (.aload_n 0, 1) := by decide +kernel
theorem dX6_voice_54 : decode cX6_voice 54 = .ok (.getfield 29, 3) := by decide +kernel
theorem dX6_voice_57 : decode cX6_voice 57 = .ok (.aload_n 0, 1) := by decide +kernel
theorem dX6_voice_58 : decode cX6_voice 58 = .ok (.getfield 89, 3) := by decide +kernel
theorem dX6_voice_61 : decode cX6_voice 61 = .ok (.iload_n 1, 1) := by decide +kernel
theorem dX6_voice_62 : decode cX6_voice 62 = .ok (.iastore, 1) := by decide +kernel
theorem dX6_voice_63 : decode cX6_voice 63 = .ok (.aload_n 0, 1) := by decide +kernel
theorem dX6_voice_64 : decode cX6_voice 64 = .ok (.getfield 32, 3) := by decide +kernel
theorem dX6_voice_67 : decode cX6_voice 67 = .ok (.aload_n 0, 1) := by decide +kernel
theorem dX6_voice_68 : decode cX6_voice 68 = .ok (.getfield 89, 3) := by decide +kernel
theorem dX6_voice_71 : decode cX6_voice 71 = .ok (.iload_n 2, 1) := by decide +kernel
theorem dX6_voice_72 : decode cX6_voice 72 = .ok (.iastore, 1) := by decide +kernel
theorem dX6_voice_73 : decode cX6_voice 73 = .ok (.aload_n 0, 1) := by decide +kernel
theorem dX6_voice_74 : decode cX6_voice 74 = .ok (.getfield 35, 3) := by decide +kernel
theorem dX6_voice_77 : decode cX6_voice 77 = .ok (.aload_n 0, 1) := by decide +kernel
theorem dX6_voice_78 : decode cX6_voice 78 = .ok (.getfield 89, 3) := by decide +kernel
theorem dX6_voice_81 : decode cX6_voice 81 = .ok (.iconst 1, 1) := by decide +kernel
theorem dX6_voice_82 : decode cX6_voice 82 = .ok (.iastore, 1) := by decide +kernel
theorem dX6_voice_83 : decode cX6_voice 83 = .ok (.aload_n 0, 1) := by decide +kernel
theorem dX6_voice_84 : decode cX6_voice 84 = .ok (.dup, 1) := by decide +kernel
theorem dX6_voice_85 : decode cX6_voice 85 = .ok (.getfield 89, 3) := by decide +kernel
theorem dX6_voice_88 : decode cX6_voice 88 = .ok (.iconst 1, 1) := by decide +kernel
theorem dX6_voice_89 : decode cX6_voice 89 = .ok (.iadd, 1) := by decide +kernel
theorem dX6_voice_90 : decode cX6_voice 90 = .ok (.putfield 89, 3) := by decide +kernel
theorem dX6_voice_93 : decode cX6_voice 93 = .ok (.aload_n 0, 1) := by decide +kernel
theorem dX6_voice_94 : decode cX6_voice 94 = .ok (.getfield 89, 3) := by decide +kernel
theorem dX6_voice_97 : decode cX6_voice 97 = .ok (.iconst 1, 1) := by decide +kernel
theorem dX6_voice_98 : decode cX6_voice 98 = .ok (.isub, 1) := by decide +kernel
theorem dX6_voice_99 : decode cX6_voice 99 = .ok (.ireturn, 1) := by decide +kernel
theorem dX6_as_0 : decode cX6_as 0 = .ok (.aload_n 0, 1) := by decide +kernel
theorem dX6_as_1 : decode cX6_as 1 = .ok (.iload_n 1, 1) := by decide +kernel
theorem dX6_as_2 : decode cX6_as 2 = .ok (.invokevirtual 96, 3) := by decide +kernel
theorem dX6_as_5 : decode cX6_as 5 = .ok (.ifCond .eq 12, 3) := by decide +kernel
theorem dX6_as_8 : decode cX6_as 8 = .ok (.iload_n 2, 1) := by decide +kernel
theorem dX6_as_9 : decode cX6_as 9 = .ok (.iconst 0, 1) := by decide +kernel
theorem dX6_as_10 : decode cX6_as 10 = .ok (.iconst 2, 1) := by decide +kernel
theorem dX6_as_11 : decode cX6_as 11 = .ok (.invokestatic 85, 3) := by decide +kernel
theorem dX6_as_14 : decode cX6_as 14 = .ok (.ifCond .ne 9, 3) := by decide +kernel
theorem dX6_as_17 : decode cX6_as 17 = .ok (.aload_n 0, 1) := by decide +kernel
theorem dX6_as_18 : decode cX6_as 18 = .ok (.iconst 1, 1) := by decide +kernel
theorem dX6_as_19 : decode cX6_as 19 = .ok (.invokevirtual 92, 3) := by decide +kernel
theorem dX6_as_22 : decode cX6_as 22 = .ok (.ireturn, 1) := by decide +kernel
theorem dX6_as_23 : decode cX6_as 23 = .ok (.iload_n 2, 1) := by decide +kernel
theorem dX6_as_24 : decode cX6_as 24 = .ok (.ifCond .eq 13, 3) := by decide +kernel
theorem dX6_as_27 : decode cX6_as 27 = .ok (.aload_n 0, 1) := by decide +kernel
theorem dX6_as_28 : decode cX6_as 28 = .ok (.getfield 29, 3) := by decide +kernel
theorem dX6_as_31 : decode cX6_as 31 = .ok (.iload_n 1, 1) := by decide +kernel
theorem dX6_as_32 : decode cX6_as 32 = .ok (.iaload, 1) := by decide +kernel
theorem dX6_as_33 : decode cX6_as 33 = .ok (.iload_n 2, 1) := by decide +kernel
theorem dX6_as_34 : decode cX6_as 34 = .ok (.if_icmp .ne 12, 3) := by decide +kernel
theorem dX6_as_37 : decode cX6_as 37 = .ok (.aload_n 0, 1) := by decide +kernel
theorem dX6_as_38 : decode cX6_as 38 = .ok (.getfield 32, 3) := by decide +kernel
theorem dX6_as_41 : decode cX6_as 41 = .ok (.iload_n 1, 1) := by decide +kernel
theorem dX6_as_42 : decode cX6_as 42 = .ok (.iaload, 1) := by decide +kernel
theorem dX6_as_43 : decode cX6_as 43 = .ok (.goto 8, 3) := by decide +kernel
theorem dX6_as_46 : decode cX6_as 46 = .ok (.aload_n 0, 1) := by decide +kernel
theorem dX6_as_47 : decode cX6_as 47 = .ok (.iconst 5, 1) := by decide +kernel
theorem dX6_as_48 : decode cX6_as 48 = .ok (.invokevirtual 92, 3) := by decide +kernel
theorem dX6_as_51 : decode cX6_as 51 = .ok (.ireturn, 1) := by decide +kernel
theorem dX6_notes_0 : decode cX6_notes 0 = .ok (.aload_n 0, 1) := by decide +kernel
theorem dX6_notes_1 : decode cX6_notes 1 = .ok (.iload_n 1, 1) := by decide +kernel
theorem dX6_notes_2 : decode cX6_notes 2 = .ok (.invokevirtual 96, 3) := by decide +kernel
theorem dX6_notes_5 : decode cX6_notes 5 = .ok (.ifCond .eq 40, 3) := by decide +kernel
theorem dX6_notes_8 : decode cX6_notes 8 = .ok (.aload_n 0, 1) := by decide +kernel
theorem dX6_notes_9 : decode cX6_notes 9 = .ok (.iload_n 2, 1) := by decide +kernel
theorem dX6_notes_10 : decode cX6_notes 10 = .ok (.invokevirtual 100, 3) := by decide +kernel
theorem dX6_notes_13 : decode cX6_notes 13 = .ok (.ifCond .eq 32, 3) := by decide +kernel
theorem dX6_notes_16 : decode cX6_notes 16 = .ok (.iload_n 3, 1) := by decide +kernel
theorem dX6_notes_17 : decode cX6_notes 17 = .ok (.iconst 0, 1) := by decide +kernel
theorem dX6_notes_18 : decode cX6_notes 18 = .ok (.bipush 16, 2) := by decide +kernel
theorem dX6_notes_20 : decode cX6_notes 20 = .ok (.invokestatic 85, 3) := by decide +kernel
theorem dX6_notes_23 : decode cX6_notes 23 = .ok (.ifCond .eq 22, 3) := by decide +kernel
theorem dX6_notes_26 : decode cX6_notes 26 = .ok (.iload 4, 2) := by decide +kernel
theorem dX6_notes_28 : decode cX6_notes 28 = .ok (.iconst 0, 1) := by decide +kernel
theorem dX6_notes_29 : decode cX6_notes 29 = .ok (.iload_n 3, 1) := by decide +kernel
theorem dX6_notes_30 : decode cX6_notes 30 = .ok (.ifCond .ne 7, 3) := by decide +kernel
theorem dX6_notes_33 : decode cX6_notes 33 = .ok (.iconst 0, 1) := by decide +kernel
theorem dX6_notes_34 : decode cX6_notes 34 = .ok (.goto 5, 3) := by decide +kernel
theorem dX6_notes_37 : decode cX6_notes 37 = .ok (.bipush 9, 2) := by decide +kernel
theorem dX6_notes_39 : decode cX6_notes 39 = .ok (.invokestatic 85, 3) := by decide +kernel
theorem dX6_notes_42 : decode cX6_notes 42 = .ok (.ifCond .ne 9, 3) := by decide +kernel
theorem dX6_notes_45 : decode cX6_notes 45 = .ok (.aload_n 0, 1) := by decide +kernel
theorem dX6_notes_46 : decode cX6_notes 46 = .ok (.iconst 1, 1) := by decide +kernel
theorem dX6_notes_47 : decode cX6_notes 47 = .ok (.invokevirtual 92, 3) := by decide +kernel
theorem dX6_notes_50 : decode cX6_notes 50 = .ok (.ireturn, 1) := by decide +kernel
theorem dX6_notes_51 : decode cX6_notes 51 = .ok (.aload_n 0, 1) := by decide +kernel
theorem dX6_notes_52 : decode cX6_notes 52 = .ok (.getfield 38, 3) := by decide +kernel
theorem dX6_notes_55 : decode cX6_notes 55 = .ok (.bipush 40, 2) := by decide +kernel
theorem dX6_notes_57 : decode cX6_notes 57 = .ok (.iload_n 1, 1) := by decide +kernel
theorem dX6_notes_58 : decode cX6_notes 58 = .ok (.imul, 1) := by decide +kernel
theorem dX6_notes_59 : decode cX6_notes 59 = .ok (.iload_n 2, 1) := by decide +kernel
theorem dX6_notes_60 : decode cX6_notes 60 = .ok (.iadd, 1) := by decide +kernel
theorem dX6_notes_61 : decode cX6_notes 61 = .ok (.iaload, 1) := by decide +kernel
theorem dX6_notes_62 : decode cX6_notes 62 = .ok (.istore 5, 2) := by decide +kernel
theorem dX6_notes_64 : decode cX6_notes 64 = .ok (.aload_n 0, 1) := by decide +kernel
theorem dX6_notes_65 : decode cX6_notes 65 = .ok (.getfield 38, 3) := by decide +kernel
theorem dX6_notes_68 : decode cX6_notes 68 = .ok (.bipush 40, 2) := by decide +kernel
theorem dX6_notes_70 : decode cX6_notes 70 = .ok (.iload_n 1, 1) := by decide +kernel
theorem dX6_notes_71 : decode cX6_notes 71 = .ok (.imul, 1) := by decide +kernel
theorem dX6_notes_72 : decode cX6_notes 72 = .ok (.iload_n 2, 1) := by decide +kernel
theorem dX6_notes_73 : decode cX6_notes 73 = .ok (.iadd, 1) := by decide +kernel
theorem dX6_notes_74 : decode cX6_notes 74 = .ok (.iload_n 3, 1) := by decide +kernel
theorem dX6_notes_75 : decode cX6_notes 75 = .ok (.iastore, 1) := by decide +kernel
theorem dX6_notes_76 : decode cX6_notes 76 = .ok (.aload_n 0, 1) := by decide +kernel
theorem dX6_notes_77 : decode cX6_notes 77 = .ok (.getfield 41, 3) := by decide +kernel
theorem dX6_notes_80 : decode cX6_notes 80 = .ok (.bipush 40, 2) := by decide +kernel
theorem dX6_notes_82 : decode cX6_notes 82 = .ok (.iload_n 1, 1) := by decide +kernel
theorem dX6_notes_83 : decode cX6_notes 83 = .ok (.imul, 1) := by decide +kernel
theorem dX6_notes_84 : decode cX6_notes 84 = .ok (.iload_n 2, 1) := by decide +kernel
theorem dX6_notes_85 : decode cX6_notes 85 = .ok (.iadd, 1) := by decide +kernel
theorem dX6_notes_86 : decode cX6_notes 86 = .ok (.iload 4, 2) := by decide +kernel
theorem dX6_notes_88 : decode cX6_notes 88 = .ok (.iastore, 1) := by decide +kernel
theorem dX6_notes_89 : decode cX6_notes 89 = .ok (.iload 5, 2) := by decide +kernel
theorem dX6_notes_91 : decode cX6_notes 91 = .ok (.ireturn, 1) := by decide +kernel
theorem dX6_sign_0 : decode cX6_sign 0 = .ok (.aload_n 0, 1) := by decide +kernel
theorem dX6_sign_1 : decode cX6_sign 1 = .ok (.iload_n 1, 1) := by decide +kernel
theorem dX6_sign_2 : decode cX6_sign 2 = .ok (.invokevirtual 100, 3) := by decide +kernel
theorem dX6_sign_5 : decode cX6_sign 5 = .ok (.ifCond .eq 13, 3) := by decide +kernel
theorem dX6_sign_8 : decode cX6_sign 8 = .ok (.iload_n 2, 1) := by decide +kernel
theorem dX6_sign_9 : decode cX6_sign 9 = .ok (.iconst 0, 1) := by decide +kernel
theorem dX6_sign_10 : decode cX6_sign 10 = .ok (.bipush 7, 2) := by decide +kernel
theorem dX6_sign_12 : decode cX6_sign 12 = .ok (.invokestatic 85, 3) := by decide +kernel
theorem dX6_sign_15 : decode cX6_sign 15 = .ok (.ifCond .ne 9, 3) := by decide +kernel
theorem dX6_sign_18 : decode cX6_sign 18 = .ok (.aload_n 0, 1) := by decide +kernel
theorem dX6_sign_19 : decode cX6_sign 19 = .ok (.iconst 1, 1) := by decide +kernel
theorem dX6_sign_20 : decode cX6_sign 20 = .ok (.invokevirtual 92, 3) := by decide +kernel
theorem dX6_sign_23 : decode cX6_sign 23 = .ok (.ireturn, 1) := by decide +kernel
theorem dX6_sign_24 : decode cX6_sign 24 = .ok (.aload_n 0, 1) := by decide +kernel
theorem dX6_sign_25 : decode cX6_sign 25 = .ok (.getfield 26, 3) := by decide +kernel
theorem dX6_sign_28 : decode cX6_sign 28 = .ok (.iload_n 1, 1) := by decide +kernel
theorem dX6_sign_29 : decode cX6_sign 29 = .ok (.iaload, 1) := by decide +kernel
theorem dX6_sign_30 : decode cX6_sign 30 = .ok (.istore_n 3, 1) := by decide +kernel
theorem dX6_sign_31 : decode cX6_sign 31 = .ok (.aload_n 0, 1) := by decide +kernel
theorem dX6_sign_32 : decode cX6_sign 32 = .ok (.getfield 26, 3) := by decide +kernel
theorem dX6_sign_35 : decode cX6_sign 35 = .ok (.iload_n 1, 1) := by decide +kernel
theorem dX6_sign_36 : decode cX6_sign 36 = .ok (.iload_n 2, 1) := by decide +kernel
theorem dX6_sign_37 : decode cX6_sign 37 = .ok (.iastore, 1) := by decide +kernel
theorem dX6_sign_38 : decode cX6_sign 38 = .ok (.iload_n 3, 1) := by decide +kernel
theorem dX6_sign_39 : decode cX6_sign 39 = .ok (.ireturn, 1) := by decide +kernel
theorem dX6_cut_0 : decode cX6_cut 0 = .ok (.aload_n 0, 1) := by decide +kernel
theorem dX6_cut_1 : decode cX6_cut 1 = .ok (.iload_n 1, 1) := by decide +kernel
theorem dX6_cut_2 : decode cX6_cut 2 = .ok (.invokevirtual 100, 3) := by decide +kernel
theorem dX6_cut_5 : decode cX6_cut 5 = .ok (.ifCond .eq 25, 3) := by decide +kernel
theorem dX6_cut_8 : decode cX6_cut 8 = .ok (.aload_n 0, 1) := by decide +kernel
theorem dX6_cut_9 : decode cX6_cut 9 = .ok (.iload_n 2, 1) := by decide +kernel
theorem dX6_cut_10 : decode cX6_cut 10 = .ok (.invokevirtual 100, 3) := by decide +kernel
theorem dX6_cut_13 : decode cX6_cut 13 = .ok (.ifCond .eq 17, 3) := by decide +kernel
theorem dX6_cut_16 : decode cX6_cut 16 = .ok (.iload_n 1, 1) := by decide +kernel
theorem dX6_cut_17 : decode cX6_cut 17 = .ok (.iload_n 2, 1) := by decide +kernel
theorem dX6_cut_18 : decode cX6_cut 18 = .ok (.if_icmp .gt 12, 3) := by decide +kernel
theorem dX6_cut_21 : decode cX6_cut 21 = .ok (.iload_n 3, 1) := by decide +kernel
theorem dX6_cut_22 : decode cX6_cut 22 = .ok (.iconst 0, 1) := by decide +kernel
theorem dX6_cut_23 : decode cX6_cut 23 = .ok (.iconst 1, 1) := by decide +kernel
theorem dX6_cut_24 : decode cX6_cut 24 = .ok (.invokestatic 85, 3) := by decide +kernel
theorem dX6_cut_27 : decode cX6_cut 27 = .ok (.ifCond .ne 9, 3) := by decide +kernel
theorem dX6_cut_30 : decode cX6_cut 30 = .ok (.aload_n 0, 1) := by decide +kernel
theorem dX6_cut_31 : decode cX6_cut 31 = .ok (.iconst 1, 1) := by decide +kernel
theorem dX6_cut_32 : decode cX6_cut 32 = .ok (.invokevirtual 92, 3) := by decide +kernel
theorem dX6_cut_35 : decode cX6_cut 35 = .ok (.ireturn, 1) := by decide +kernel
theorem dX6_cut_36 : decode cX6_cut 36 = .ok (.iconst 0, 1) := by decide +kernel
theorem dX6_cut_37 : decode cX6_cut 37 = .ok (.istore 4, 2) := by decide +kernel
theorem dX6_cut_39 : decode cX6_cut 39 = .ok (.iload_n 1, 1) := by decide +kernel
theorem dX6_cut_40 : decode cX6_cut 40 = .ok (.istore 5, 2) := by decide +kernel
theorem dX6_cut_42 : decode cX6_cut 42 = .ok (.iload 5, 2) := by decide +kernel
theorem dX6_cut_44 : decode cX6_cut 44 = .ok (.iload_n 2, 1) := by decide +kernel
theorem dX6_cut_45 : decode cX6_cut 45 = .ok (.if_icmp .gt 58, 3) := by decide +kernel
theorem dX6_cut_48 : decode cX6_cut 48 = .ok (.iload 4, 2) := by decide +kernel
theorem dX6_cut_50 : decode cX6_cut 50 = .ok (.aload_n 0, 1) := by decide +kernel
theorem dX6_cut_51 : decode cX6_cut 51 = .ok (.iload 5, 2) := by decide +kernel
theorem dX6_cut_53 : decode cX6_cut 53 = .ok (.invokevirtual 103, 3) := by decide +kernel
theorem dX6_cut_56 : decode cX6_cut 56 = .ok (.iload_n 3, 1) := by decide +kernel
theorem dX6_cut_57 : decode cX6_cut 57 = .ok (.iconst 1, 1) := by decide +kernel
theorem dX6_cut_58 : decode cX6_cut 58 = .ok (.if_icmp .ne 7, 3) := by decide +kernel
theorem dX6_cut_61 : decode cX6_cut 61 = .ok (.iconst 1, 1) := by decide +kernel
theorem dX6_cut_62 : decode cX6_cut 62 = .ok (.goto 4, 3) := by decide +kernel
theorem dX6_cut_65 : decode cX6_cut 65 = .ok (.iconst 0, 1) := by decide +kernel
theorem dX6_cut_66 : decode cX6_cut 66 = .ok (.if_icmp .eq 7, 3) := by decide +kernel
theorem dX6_cut_69 : decode cX6_cut 69 = .ok (.iconst 1, 1) := by decide +kernel
theorem dX6_cut_70 : decode cX6_cut 70 = .ok (.goto 4, 3) := by decide +kernel
theorem dX6_cut_73 : decode cX6_cut 73 = .ok (.iconst 0, 1) := by decide +kernel
theorem dX6_cut_74 : decode cX6_cut 74 = .ok (.iadd, 1) := by decide +kernel
theorem dX6_cut_75 : decode cX6_cut 75 = .ok (.istore 4, 2) := by decide +kernel
theorem dX6_cut_77 : decode cX6_cut 77 = .ok (.aload_n 0, 1) := by decide +kernel
theorem dX6_cut_78 : decode cX6_cut 78 = .ok (.getfield 26, 3) := by decide +kernel
theorem dX6_cut_81 : decode cX6_cut 81 = .ok (.iload 5, 2) := by decide +kernel
theorem dX6_cut_83 : decode cX6_cut 83 = .ok (.aload_n 0, 1) := by decide +kernel
theorem dX6_cut_84 : decode cX6_cut 84 = .ok (.getfield 26, 3) := by decide +kernel
theorem dX6_cut_87 : decode cX6_cut 87 = .ok (.iload 5, 2) := by decide +kernel
theorem dX6_cut_89 : decode cX6_cut 89 = .ok (.iaload, 1) := by decide +kernel
theorem dX6_cut_90 : decode cX6_cut 90 = .ok (.iconst 3, 1) := by decide +kernel
theorem dX6_cut_91 : decode cX6_cut 91 = .ok (.iand, 1) := by decide +kernel
theorem dX6_cut_92 : decode cX6_cut 92 = .ok (.iconst 4, 1) := by decide +kernel
theorem dX6_cut_93 : decode cX6_cut 93 = .ok (.iload_n 3, 1) := by decide +kernel
theorem dX6_cut_94 : decode cX6_cut 94 = .ok (.imul, 1) := by decide +kernel
theorem dX6_cut_95 : decode cX6_cut 95 = .ok (.iadd, 1) := by decide +kernel
theorem dX6_cut_96 : decode cX6_cut 96 = .ok (.iastore, 1) := by decide +kernel
theorem dX6_cut_97 : decode cX6_cut 97 = .ok (.iinc 5 1, 3) := by decide +kernel
theorem dX6_cut_100 : decode cX6_cut 100 = .ok (.goto (-58), 3) := by decide +kernel
theorem dX6_cut_103 : decode cX6_cut 103 = .ok (.iload 4, 2) := by decide +kernel
theorem dX6_cut_105 : decode cX6_cut 105 = .ok (.ireturn, 1) := by decide +kernel
theorem dX6_stage_0 : decode cX6_stage 0 = .ok (.aload_n 0, 1) := by decide +kernel
theorem dX6_stage_1 : decode cX6_stage 1 = .ok (.iload_n 1, 1) := by decide +kernel
theorem dX6_stage_2 : decode cX6_stage 2 = .ok (.invokevirtual 96, 3) := by decide +kernel
theorem dX6_stage_5 : decode cX6_stage 5 = .ok (.ifCond .eq 12, 3) := by decide +kernel
theorem dX6_stage_8 : decode cX6_stage 8 = .ok (.iload_n 2, 1) := by decide +kernel
theorem dX6_stage_9 : decode cX6_stage 9 = .ok (.iconst 0, 1) := by decide +kernel
theorem dX6_stage_10 : decode cX6_stage 10 = .ok (.iconst 1, 1) := by decide +kernel
theorem dX6_stage_11 : decode cX6_stage 11 = .ok (.invokestatic 85, 3) := by decide +kernel
theorem dX6_stage_14 : decode cX6_stage 14 = .ok (.ifCond .ne 9, 3) := by decide +kernel
theorem dX6_stage_17 : decode cX6_stage 17 = .ok (.aload_n 0, 1) := by decide +kernel
theorem dX6_stage_18 : decode cX6_stage 18 = .ok (.iconst 1, 1) := by decide +kernel
theorem dX6_stage_19 : decode cX6_stage 19 = .ok (.invokevirtual 92, 3) := by decide +kernel
theorem dX6_stage_22 : decode cX6_stage 22 = .ok (.ireturn, 1) := by decide +kernel
theorem dX6_stage_23 : decode cX6_stage 23 = .ok (.aload_n 0, 1) := by decide +kernel
theorem dX6_stage_24 : decode cX6_stage 24 = .ok (.getfield 35, 3) := by decide +kernel
theorem dX6_stage_27 : decode cX6_stage 27 = .ok (.iload_n 1, 1) := by decide +kernel
theorem dX6_stage_28 : decode cX6_stage 28 = .ok (.iaload, 1) := by decide +kernel
theorem dX6_stage_29 : decode cX6_stage 29 = .ok (.istore_n 3, 1) := by decide +kernel
theorem dX6_stage_30 : decode cX6_stage 30 = .ok (.aload_n 0, 1) := by decide +kernel
theorem dX6_stage_31 : decode cX6_stage 31 = .ok (.getfield 35, 3) := by decide +kernel
theorem dX6_stage_34 : decode cX6_stage 34 = .ok (.iload_n 1, 1) := by decide +kernel
theorem dX6_stage_35 : decode cX6_stage 35 = .ok (.iload_n 2, 1) := by decide +kernel
theorem dX6_stage_36 : decode cX6_stage 36 = .ok (.iastore, 1) := by decide +kernel
theorem dX6_stage_37 : decode cX6_stage 37 = .ok (.iload_n 3, 1) := by decide +kernel
theorem dX6_stage_38 : decode cX6_stage 38 = .ok (.ireturn, 1) := by decide +kernel
theorem dX6_findRow_0 : decode cX6_findRow 0 = .ok (.aload_n 0, 1) := by decide +kernel
theorem dX6_findRow_1 : decode cX6_findRow 1 = .ok (.iconst 0, 1) := by decide +kernel
theorem dX6_findRow_2 : decode cX6_findRow 2 = .ok (.putfield 106, 3) := by decide +kernel
theorem dX6_findRow_5 : decode cX6_findRow 5 = .ok (.iconst 0, 1) := by decide +kernel
theorem dX6_findRow_6 : decode cX6_findRow 6 = .ok (.istore_n 1, 1) := by decide +kernel
theorem dX6_findRow_7 : decode cX6_findRow 7 = .ok (.iload_n 1, 1) := by decide +kernel
theorem dX6_findRow_8 : decode cX6_findRow 8 = .ok (.aload_n 0, 1) := by decide +kernel
theorem dX6_findRow_9 : decode cX6_findRow 9 = .ok (.getfield 82, 3) := by decide +kernel
theorem dX6_findRow_12 : decode cX6_findRow 12 = .ok (.if_icmp .ge 40, 3) := by decide +kernel
theorem dX6_findRow_15 : decode cX6_findRow 15 = .ok (.aload_n 0, 1) := by decide +kernel
theorem dX6_findRow_16 : decode cX6_findRow 16 = .ok (.iload_n 1, 1) := by decide +kernel
theorem dX6_findRow_17 : decode cX6_findRow 17 = .ok (.invokevirtual 103, 3) := by decide +kernel
theorem dX6_findRow_20 : decode cX6_findRow 20 = .ok (.ifCond .eq 6, 3) := by decide +kernel
theorem dX6_findRow_23 : decode cX6_findRow 23 = .ok (.goto 23, 3) := by decide +kernel
theorem dX6_findRow_26 : decode cX6_findRow 26 = .ok (.aload_n 0, 1) := by decide +kernel
theorem dX6_findRow_27 : decode cX6_findRow 27 = .ok (.getfield 50, 3) := by decide +kernel
theorem dX6_findRow_30 : decode cX6_findRow 30 = .ok (.aload_n 0, 1) := by decide +kernel
theorem dX6_findRow_31 : decode cX6_findRow 31 = .ok (.getfield 106, 3) := by decide +kernel
theorem dX6_findRow_34 : decode cX6_findRow 34 = .ok (.iload_n 1, 1) := by decide +kernel
theorem dX6_findRow_35 : decode cX6_findRow 35 = .ok (.iastore, 1) := by decide +kernel
theorem dX6_findRow_36 : decode cX6_findRow 36 = .ok (.aload_n 0, 1) := by decide +kernel
theorem dX6_findRow_37 : decode cX6_findRow 37 = .ok (.dup, 1) := by decide +kernel
theorem dX6_findRow_38 : decode cX6_findRow 38 = .ok (.getfield 106, 3) := by decide +kernel
theorem dX6_findRow_41 : decode cX6_findRow 41 = .ok (.iconst 1, 1) := by decide +kernel
theorem dX6_findRow_42 : decode cX6_findRow 42 = .ok (.iadd, 1) := by decide +kernel
theorem dX6_findRow_43 : decode cX6_findRow 43 = .ok (.putfield 106, 3) := by decide +kernel
theorem dX6_findRow_46 : decode cX6_findRow 46 = .ok (.iinc 1 1, 3) := by decide +kernel
theorem dX6_findRow_49 : decode cX6_findRow 49 = .ok (.goto (-42), 3) := by decide +kernel
theorem dX6_findRow_52 : decode cX6_findRow 52 = .ok (.return_, 1) := by decide +kernel
theorem dX6_rests_0 : decode cX6_rests 0 = .ok (.aload_n 0, 1) := by decide +kernel
theorem dX6_rests_1 : decode cX6_rests 1 = .ok (.getfield 38, 3) := by decide +kernel
theorem dX6_rests_4 : decode cX6_rests 4 = .ok (.bipush 40, 2) := by decide +kernel
theorem dX6_rests_6 : decode cX6_rests 6 = .ok (.iload_n 1, 1) := by decide +kernel
theorem dX6_rests_7 : decode cX6_rests 7 = .ok (.imul, 1) := by decide +kernel
theorem dX6_rests_8 : decode cX6_rests 8 = .ok (.aload_n 0, 1) := by decide +kernel
theorem dX6_rests_9 : decode cX6_rests 9 = .ok (.getfield 50, 3) := by decide +kernel
theorem dX6_rests_12 : decode cX6_rests 12 = .ok (.iload_n 2, 1) := by decide +kernel
theorem dX6_rests_13 : decode cX6_rests 13 = .ok (.iaload, 1) := by decide +kernel
theorem dX6_rests_14 : decode cX6_rests 14 = .ok (.iadd, 1) := by decide +kernel
theorem dX6_rests_15 : decode cX6_rests 15 = .ok (.iaload, 1) := by decide +kernel
theorem dX6_rests_16 : decode cX6_rests 16 = .ok (.ifCond .ne 7, 3) := by decide +kernel
theorem dX6_rests_19 : decode cX6_rests 19 = .ok (.iconst 1, 1) := by decide +kernel
theorem dX6_rests_20 : decode cX6_rests 20 = .ok (.goto 4, 3) := by decide +kernel
theorem dX6_rests_23 : decode cX6_rests 23 = .ok (.iconst 0, 1) := by decide +kernel
theorem dX6_rests_24 : decode cX6_rests 24 = .ok (.ireturn, 1) := by decide +kernel
theorem dX6_begins_0 : decode cX6_begins 0 = .ok (.aload_n 0, 1) := by decide +kernel
theorem dX6_begins_1 : decode cX6_begins 1 = .ok (.iload_n 1, 1) := by decide +kernel
theorem dX6_begins_2 : decode cX6_begins 2 = .ok (.iload_n 2, 1) := by decide +kernel
theorem dX6_begins_3 : decode cX6_begins 3 = .ok (.invokevirtual 109, 3) := by decide +kernel
theorem dX6_begins_6 : decode cX6_begins 6 = .ok (.ifCond .ne 5, 3) := by decide +kernel
theorem dX6_begins_9 : decode cX6_begins 9 = .ok (.iconst 0, 1) := by decide +kernel
theorem dX6_begins_10 : decode cX6_begins 10 = .ok (.ireturn, 1) := by decide +kernel
theorem dX6_begins_11 : decode cX6_begins 11 = .ok (.iload_n 2, 1) := by decide +kernel
theorem dX6_begins_12 : decode cX6_begins 12 = .ok (.ifCond .eq 47, 3) := by decide +kernel
theorem dX6_begins_15 : decode cX6_begins 15 = .ok (.aload_n 0, 1) := by decide +kernel
theorem dX6_begins_16 : decode cX6_begins 16 = .ok (.iload_n 1, 1) := by decide +kernel
theorem dX6_begins_17 : decode cX6_begins 17 = .ok (.iload_n 2, 1) := by decide +kernel
theorem dX6_begins_18 : decode cX6_begins 18 = .ok (.iconst 1, 1) := by decide +kernel
theorem dX6_begins_19 : decode cX6_begins 19 = .ok (.isub, 1) := by decide +kernel
theorem dX6_begins_20 : decode cX6_begins 20 = .ok (.invokevirtual 109, 3) := by decide +kernel
theorem dX6_begins_23 : decode cX6_begins 23 = .ok (.ifCond .eq 36, 3) := by decide +kernel
theorem dX6_begins_26 : decode cX6_begins 26 = .ok (.aload_n 0, 1) := by decide +kernel
theorem dX6_begins_27 : decode cX6_begins 27 = .ok (.getfield 26, 3) := by decide +kernel
theorem dX6_begins_30 : decode cX6_begins 30 = .ok (.aload_n 0, 1) := by decide +kernel
theorem dX6_begins_31 : decode cX6_begins 31 = .ok (.getfield 50, 3) := by decide +kernel
theorem dX6_begins_34 : decode cX6_begins 34 = .ok (.iload_n 2, 1) := by decide +kernel
theorem dX6_begins_35 : decode cX6_begins 35 = .ok (.iaload, 1) := by decide +kernel
theorem dX6_begins_36 : decode cX6_begins 36 = .ok (.iaload, 1) := by decide +kernel
theorem dX6_begins_37 : decode cX6_begins 37 = .ok (.ifCond .ne 22, 3) := by decide +kernel
theorem dX6_begins_40 : decode cX6_begins 40 = .ok (.aload_n 0, 1) := by decide +kernel
theorem dX6_begins_41 : decode cX6_begins 41 = .ok (.getfield 26, 3) := by decide +kernel
theorem dX6_begins_44 : decode cX6_begins 44 = .ok (.aload_n 0, 1) := by decide +kernel
theorem dX6_begins_45 : decode cX6_begins 45 = .ok (.getfield 50, 3) := by decide +kernel
theorem dX6_begins_48 : decode cX6_begins 48 = .ok (.iload_n 2, 1) := by decide +kernel
theorem dX6_begins_49 : decode cX6_begins 49 = .ok (.iconst 1, 1) := by decide +kernel
theorem dX6_begins_50 : decode cX6_begins 50 = .ok (.isub, 1) := by decide +kernel
theorem dX6_begins_51 : decode cX6_begins 51 = .ok (.iaload, 1) := by decide +kernel
theorem dX6_begins_52 : decode cX6_begins 52 = .ok (.iaload, 1) := by decide +kernel
theorem dX6_begins_53 : decode cX6_begins 53 = .ok (.iconst 1, 1) := by decide +kernel
theorem dX6_begins_54 : decode cX6_begins 54 = .ok (.iand, 1) := by decide +kernel
theorem dX6_begins_55 : decode cX6_begins 55 = .ok (.iconst 1, 1) := by decide +kernel
theorem dX6_begins_56 : decode cX6_begins 56 = .ok (.if_icmp .ne 7, 3) := by decide +kernel
theorem dX6_begins_59 : decode cX6_begins 59 = .ok (.iconst 1, 1) := by decide +kernel
theorem dX6_begins_60 : decode cX6_begins 60 = .ok (.goto 4, 3) := by decide +kernel
theorem dX6_begins_63 : decode cX6_begins 63 = .ok (.iconst 0, 1) := by decide +kernel
theorem dX6_begins_64 : decode cX6_begins 64 = .ok (.ireturn, 1) := by decide +kernel
theorem dX6_restsFrom_0 : decode cX6_restsFrom 0 = .ok (.iconst 1, 1) := by decide +kernel
theorem dX6_restsFrom_1 : decode cX6_restsFrom 1 = .ok (.istore_n 3, 1) := by decide +kernel
theorem dX6_restsFrom_2 : decode cX6_restsFrom 2 = .ok (.iload_n 2, 1) := by decide +kernel
theorem dX6_restsFrom_3 : decode cX6_restsFrom 3 = .ok (.iload_n 3, 1) := by decide +kernel
theorem dX6_restsFrom_4 : decode cX6_restsFrom 4 = .ok (.iadd, 1) := by decide +kernel
theorem dX6_restsFrom_5 : decode cX6_restsFrom 5 = .ok (.aload_n 0, 1) := by decide +kernel
theorem dX6_restsFrom_6 : decode cX6_restsFrom 6 = .ok (.getfield 106, 3) := by decide +kernel
theorem dX6_restsFrom_9 : decode cX6_restsFrom 9 = .ok (.if_icmp .ge 31, 3) := by decide +kernel
theorem dX6_restsFrom_12 : decode cX6_restsFrom 12 = .ok (.aload_n 0, 1) := by decide +kernel
theorem dX6_restsFrom_13 : decode cX6_restsFrom 13 = .ok (.iload_n 1, 1) := by decide +kernel
theorem dX6_restsFrom_14 : decode cX6_restsFrom 14 = .ok (.iload_n 2, 1) := by decide +kernel
theorem dX6_restsFrom_15 : decode cX6_restsFrom 15 = .ok (.iload_n 3, 1) := by decide +kernel
theorem dX6_restsFrom_16 : decode cX6_restsFrom 16 = .ok (.iadd, 1) := by decide +kernel
theorem dX6_restsFrom_17 : decode cX6_restsFrom 17 = .ok (.invokevirtual 109, 3) := by decide +kernel
theorem dX6_restsFrom_20 : decode cX6_restsFrom 20 = .ok (.ifCond .eq 20, 3) := by decide +kernel
theorem dX6_restsFrom_23 : decode cX6_restsFrom 23 = .ok (.aload_n 0, 1) := by decide +kernel
theorem dX6_restsFrom_24 : decode cX6_restsFrom 24 = .ok (.iload_n 1, 1) := by decide +kernel
theorem dX6_restsFrom_25 : decode cX6_restsFrom 25 = .ok (.iload_n 2, 1) := by decide +kernel
theorem dX6_restsFrom_26 : decode cX6_restsFrom 26 = .ok (.iload_n 3, 1) := by decide +kernel
theorem dX6_restsFrom_27 : decode cX6_restsFrom 27 = .ok (.iadd, 1) := by decide +kernel
theorem dX6_restsFrom_28 : decode cX6_restsFrom 28 = .ok (.invokevirtual 113, 3) := by decide +kernel
theorem dX6_restsFrom_31 : decode cX6_restsFrom 31 = .ok (.ifCond .ne 9, 3) := by decide +kernel
theorem dX6_restsFrom_34 : decode cX6_restsFrom 34 = .ok (.iinc 3 1, 3) := by decide +kernel
theorem dX6_restsFrom_37 : decode cX6_restsFrom 37 = .ok (.goto (-35), 3) := by decide +kernel
theorem dX6_restsFrom_40 : decode cX6_restsFrom 40 = .ok (.iload_n 3, 1) := by decide +kernel
theorem dX6_restsFrom_41 : decode cX6_restsFrom 41 = .ok (.ireturn, 1) := by decide +kernel
theorem dX6_rest_0 : decode cX6_rest 0 = .ok (.aload_n 0, 1) := by decide +kernel
theorem dX6_rest_1 : decode cX6_rest 1 = .ok (.iload_n 1, 1) := by decide +kernel
theorem dX6_rest_2 : decode cX6_rest 2 = .ok (.invokevirtual 96, 3) := by decide +kernel
theorem dX6_rest_5 : decode cX6_rest 5 = .ok (.ifCond .eq 7, 3) := by decide +kernel
theorem dX6_rest_8 : decode cX6_rest 8 = .ok (.iload_n 2, 1) := by decide +kernel
theorem dX6_rest_9 : decode cX6_rest 9 = .ok (.ifCond .ge 9, 3) := by decide +kernel
theorem dX6_rest_12 : decode cX6_rest 12 = .ok (.aload_n 0, 1) := by decide +kernel
theorem dX6_rest_13 : decode cX6_rest 13 = .ok (.iconst 1, 1) := by decide +kernel
theorem dX6_rest_14 : decode cX6_rest 14 = .ok (.invokevirtual 92, 3) := by decide +kernel
theorem dX6_rest_17 : decode cX6_rest 17 = .ok (.ireturn, 1) := by decide +kernel
theorem dX6_rest_18 : decode cX6_rest 18 = .ok (.aload_n 0, 1) := by decide +kernel
theorem dX6_rest_19 : decode cX6_rest 19 = .ok (.invokevirtual 116, 3) := by decide +kernel
theorem dX6_rest_22 : decode cX6_rest 22 = .ok (.iload_n 2, 1) := by decide +kernel
theorem dX6_rest_23 : decode cX6_rest 23 = .ok (.istore_n 3, 1) := by decide +kernel
theorem dX6_rest_24 : decode cX6_rest 24 = .ok (.iconst 0, 1) := by decide +kernel
theorem dX6_rest_25 : decode cX6_rest 25 = .ok (.istore 4, 2) := by decide +kernel
theorem dX6_rest_27 : decode cX6_rest 27 = .ok (.iload 4, 2) := by decide +kernel
theorem dX6_rest_29 : decode cX6_rest 29 = .ok (.aload_n 0, 1) := by decide +kernel
theorem dX6_rest_30 : decode cX6_rest 30 = .ok (.getfield 106, 3) := by decide +kernel
theorem dX6_rest_33 : decode cX6_rest 33 = .ok (.if_icmp .ge 48, 3) := by decide +kernel
theorem dX6_rest_36 : decode cX6_rest 36 = .ok (.aload_n 0, 1) := by decide +kernel
theorem dX6_rest_37 : decode cX6_rest 37 = .ok (.iload_n 1, 1) := by decide +kernel
theorem dX6_rest_38 : decode cX6_rest 38 = .ok (.iload 4, 2) := by decide +kernel
theorem dX6_rest_40 : decode cX6_rest 40 = .ok (.invokevirtual 113, 3) := by decide +kernel
theorem dX6_rest_43 : decode cX6_rest 43 = .ok (.ifCond .ne 6, 3) := by decide +kernel
theorem dX6_rest_46 : decode cX6_rest 46 = .ok (.goto 29, 3) := by decide +kernel
theorem dX6_rest_49 : decode cX6_rest 49 = .ok (.iload_n 3, 1) := by decide +kernel
theorem dX6_rest_50 : decode cX6_rest 50 = .ok (.ifCond .ne 22, 3) := by decide +kernel
theorem dX6_rest_53 : decode cX6_rest 53 = .ok (.bipush 100, 2) := by decide +kernel
theorem dX6_rest_55 : decode cX6_rest 55 = .ok (.aload_n 0, 1) := by decide +kernel
theorem dX6_rest_56 : decode cX6_rest 56 = .ok (.getfield 50, 3) := by decide +kernel
theorem dX6_rest_59 : decode cX6_rest 59 = .ok (.iload 4, 2) := by decide +kernel
theorem dX6_rest_61 : decode cX6_rest 61 = .ok (.iaload, 1) := by decide +kernel
theorem dX6_rest_62 : decode cX6_rest 62 = .ok (.imul, 1) := by decide +kernel
theorem dX6_rest_63 : decode cX6_rest 63 = .ok (.aload_n 0, 1) := by decide +kernel
theorem dX6_rest_64 : decode cX6_rest 64 = .ok (.iload_n 1, 1) := by decide +kernel
theorem dX6_rest_65 : decode cX6_rest 65 = .ok (.iload 4, 2) := by decide +kernel
theorem dX6_rest_67 : decode cX6_rest 67 = .ok (.invokevirtual 119, 3) := by decide +kernel
theorem dX6_rest_70 : decode cX6_rest 70 = .ok (.iadd, 1) := by decide +kernel
theorem dX6_rest_71 : decode cX6_rest 71 = .ok (.ireturn, 1) := by decide +kernel
theorem dX6_rest_72 : decode cX6_rest 72 = .ok (.iinc 3 (-1), 3) := by decide +kernel
theorem dX6_rest_75 : decode cX6_rest 75 = .ok (.iinc 4 1, 3) := by decide +kernel
theorem dX6_rest_78 : decode cX6_rest 78 = .ok (.goto (-51), 3) := by decide +kernel
theorem dX6_rest_81 : decode cX6_rest 81 = .ok (.aload_n 0, 1) := by decide +kernel
theorem dX6_rest_82 : decode cX6_rest 82 = .ok (.iconst 2, 1) := by decide +kernel
theorem dX6_rest_83 : decode cX6_rest 83 = .ok (.invokevirtual 92, 3) := by decide +kernel
theorem dX6_rest_86 : decode cX6_rest 86 = .ok (.ireturn, 1) := by decide +kernel
theorem dX6_cueAt_0 : decode cX6_cueAt 0 = .ok (.aload_n 0, 1) := by decide +kernel
theorem dX6_cueAt_1 : decode cX6_cueAt 1 = .ok (.iload_n 1, 1) := by decide +kernel
theorem dX6_cueAt_2 : decode cX6_cueAt 2 = .ok (.iload_n 2, 1) := by decide +kernel
theorem dX6_cueAt_3 : decode cX6_cueAt 3 = .ok (.invokevirtual 109, 3) := by decide +kernel
theorem dX6_cueAt_6 : decode cX6_cueAt 6 = .ok (.ifCond .ne 11, 3) := by decide +kernel
theorem dX6_cueAt_9 : decode cX6_cueAt 9 = .ok (.iload_n 2, 1) := by decide +kernel
theorem dX6_cueAt_10 : decode cX6_cueAt 10 = .ok (.aload_n 0, 1) := by decide +kernel
theorem dX6_cueAt_11 : decode cX6_cueAt 11 = .ok (.getfield 7, 3) := by decide +kernel
theorem dX6_cueAt_14 : decode cX6_cueAt 14 = .ok (.if_icmp .ge 5, 3) := by decide +kernel
theorem dX6_cueAt_17 : decode cX6_cueAt 17 = .ok (.iconst (-1), 1) := by decide +kernel
theorem dX6_cueAt_18 : decode cX6_cueAt 18 = .ok (.ireturn, 1) := by decide +kernel
theorem dX6_cueAt_19 : decode cX6_cueAt 19 = .ok (.iconst 1, 1) := by decide +kernel
theorem dX6_cueAt_20 : decode cX6_cueAt 20 = .ok (.istore_n 3, 1) := by decide +kernel
theorem dX6_cueAt_21 : decode cX6_cueAt 21 = .ok (.iload_n 3, 1) := by decide +kernel
theorem dX6_cueAt_22 : decode cX6_cueAt 22 = .ok (.aload_n 0, 1) := by decide +kernel
theorem dX6_cueAt_23 : decode cX6_cueAt 23 = .ok (.getfield 7, 3) := by decide +kernel
theorem dX6_cueAt_26 : decode cX6_cueAt 26 = .ok (.if_icmp .gt 22, 3) := by decide +kernel
theorem dX6_cueAt_29 : decode cX6_cueAt 29 = .ok (.aload_n 0, 1) := by decide +kernel
theorem dX6_cueAt_30 : decode cX6_cueAt 30 = .ok (.iload_n 1, 1) := by decide +kernel
theorem dX6_cueAt_31 : decode cX6_cueAt 31 = .ok (.iload_n 2, 1) := by decide +kernel
theorem dX6_cueAt_32 : decode cX6_cueAt 32 = .ok (.iload_n 3, 1) := by decide +kernel
theorem dX6_cueAt_33 : decode cX6_cueAt 33 = .ok (.isub, 1) := by decide +kernel
theorem dX6_cueAt_34 : decode cX6_cueAt 34 = .ok (.invokevirtual 109, 3) := by decide +kernel
theorem dX6_cueAt_37 : decode cX6_cueAt 37 = .ok (.ifCond .ne 5, 3) := by decide +kernel
theorem dX6_cueAt_40 : decode cX6_cueAt 40 = .ok (.iconst (-1), 1) := by decide +kernel
theorem dX6_cueAt_41 : decode cX6_cueAt 41 = .ok (.ireturn, 1) := by decide +kernel
theorem dX6_cueAt_42 : decode cX6_cueAt 42 = .ok (.iinc 3 1, 3) := by decide +kernel
theorem dX6_cueAt_45 : decode cX6_cueAt 45 = .ok (.goto (-24), 3) := by decide +kernel
theorem dX6_cueAt_48 : decode cX6_cueAt 48 = .ok (.iconst (-1), 1) := by decide +kernel
theorem dX6_cueAt_49 : decode cX6_cueAt 49 = .ok (.istore_n 3, 1) := by decide +kernel
theorem dX6_cueAt_50 : decode cX6_cueAt 50 = .ok (.iconst 0, 1) := by decide +kernel
theorem dX6_cueAt_51 : decode cX6_cueAt 51 = .ok (.istore 4, 2) := by decide +kernel
theorem dX6_cueAt_53 : decode cX6_cueAt 53 = .ok (.iconst 0, 1) := by decide +kernel
theorem dX6_cueAt_54 : decode cX6_cueAt 54 = .ok (.istore 5, 2) := by decide +kernel
theorem dX6_cueAt_56 : decode cX6_cueAt 56 = .ok (.iload 5, 2) := by decide +kernel
theorem dX6_cueAt_58 : decode cX6_cueAt 58 = .ok (.aload_n 0, 1) := by decide +kernel
theorem dX6_cueAt_59 : decode cX6_cueAt 59 = .ok (.getfield 89, 3) := by decide +kernel
theorem dX6_cueAt_62 : decode cX6_cueAt 62 = .ok (.if_icmp .ge 98, 3) := by decide +kernel
theorem dX6_cueAt_65 : decode cX6_cueAt 65 = .ok (.iload 5, 2) := by decide +kernel
theorem dX6_cueAt_67 : decode cX6_cueAt 67 = .ok (.iload_n 1, 1) := by decide +kernel
theorem dX6_cueAt_68 : decode cX6_cueAt 68 = .ok (.if_icmp .eq 86, 3) := by decide +kernel
theorem dX6_cueAt_71 : decode cX6_cueAt 71 = .ok (.aload_n 0, 1) := by decide +kernel
theorem dX6_cueAt_72 : decode cX6_cueAt 72 = .ok (.getfield 35, 3) := by decide +kernel
theorem dX6_cueAt_75 : decode cX6_cueAt 75 = .ok (.iload 5, 2) := by decide +kernel
theorem dX6_cueAt_77 : decode cX6_cueAt 77 = .ok (.iaload, 1) := by decide +kernel
theorem dX6_cueAt_78 : decode cX6_cueAt 78 = .ok (.ifCond .ne 6, 3) := by decide +kernel
theorem dX6_cueAt_81 : decode cX6_cueAt 81 = .ok (.goto 73, 3) := by decide +kernel
theorem dX6_cueAt_84 : decode cX6_cueAt 84 = .ok (.aload_n 0, 1) := by decide +kernel
theorem dX6_cueAt_85 : decode cX6_cueAt 85 = .ok (.getfield 41, 3) := by decide +kernel
theorem dX6_cueAt_88 : decode cX6_cueAt 88 = .ok (.bipush 40, 2) := by decide +kernel
theorem dX6_cueAt_90 : decode cX6_cueAt 90 = .ok (.iload 5, 2) := by decide +kernel
theorem dX6_cueAt_92 : decode cX6_cueAt 92 = .ok (.imul, 1) := by decide +kernel
theorem dX6_cueAt_93 : decode cX6_cueAt 93 = .ok (.aload_n 0, 1) := by decide +kernel
theorem dX6_cueAt_94 : decode cX6_cueAt 94 = .ok (.getfield 50, 3) := by decide +kernel
theorem dX6_cueAt_97 : decode cX6_cueAt 97 = .ok (.iload_n 2, 1) := by decide +kernel
theorem dX6_cueAt_98 : decode cX6_cueAt 98 = .ok (.iconst 1, 1) := by decide +kernel
theorem dX6_cueAt_99 : decode cX6_cueAt 99 = .ok (.isub, 1) := by decide +kernel
theorem dX6_cueAt_100 : decode cX6_cueAt 100 = .ok (.iaload, 1) := by decide +kernel
theorem dX6_cueAt_101 : decode cX6_cueAt 101 = .ok (.iadd, 1) := by decide +kernel
theorem dX6_cueAt_102 : decode cX6_cueAt 102 = .ok (.iaload, 1) := by decide +kernel
theorem dX6_cueAt_103 : decode cX6_cueAt 103 = .ok (.aload_n 0, 1) := by decide +kernel
theorem dX6_cueAt_104 : decode cX6_cueAt 104 = .ok (.getfield 7, 3) := by decide +kernel
theorem dX6_cueAt_107 : decode cX6_cueAt 107 = .ok (.iconst 1, 1) := by decide +kernel
theorem dX6_cueAt_108 : decode cX6_cueAt 108 = .ok (.if_icmp .le 25, 3) := by decide +kernel
theorem dX6_cueAt_111 : decode cX6_cueAt 111 = .ok (.aload_n 0, 1) := by decide +kernel
theorem dX6_cueAt_112 : decode cX6_cueAt 112 = .ok (.getfield 41, 3) := by decide +kernel
theorem dX6_cueAt_115 : decode cX6_cueAt 115 = .ok (.bipush 40, 2) := by decide +kernel
theorem dX6_cueAt_117 : decode cX6_cueAt 117 = .ok (.iload 5, 2) := by decide +kernel
theorem dX6_cueAt_119 : decode cX6_cueAt 119 = .ok (.imul, 1) := by decide +kernel
theorem dX6_cueAt_120 : decode cX6_cueAt 120 = .ok (.aload_n 0, 1) := by decide +kernel
theorem dX6_cueAt_121 : decode cX6_cueAt 121 = .ok (.getfield 50, 3) := by decide +kernel
theorem dX6_cueAt_124 : decode cX6_cueAt 124 = .ok (.iload_n 2, 1) := by decide +kernel
theorem dX6_cueAt_125 : decode cX6_cueAt 125 = .ok (.iconst 2, 1) := by decide +kernel
theorem dX6_cueAt_126 : decode cX6_cueAt 126 = .ok (.isub, 1) := by decide +kernel
theorem dX6_cueAt_127 : decode cX6_cueAt 127 = .ok (.iaload, 1) := by decide +kernel
theorem dX6_cueAt_128 : decode cX6_cueAt 128 = .ok (.iadd, 1) := by decide +kernel
theorem dX6_cueAt_129 : decode cX6_cueAt 129 = .ok (.iaload, 1) := by decide +kernel
theorem dX6_cueAt_130 : decode cX6_cueAt 130 = .ok (.goto 4, 3) := by decide +kernel
theorem dX6_cueAt_133 : decode cX6_cueAt 133 = .ok (.iconst 0, 1) := by decide +kernel
theorem dX6_cueAt_134 : decode cX6_cueAt 134 = .ok (.iadd, 1) := by decide +kernel
theorem dX6_cueAt_135 : decode cX6_cueAt 135 = .ok (.istore 6, 2) := by decide +kernel
theorem dX6_cueAt_137 : decode cX6_cueAt 137 = .ok (.iload 6, 2) := by decide +kernel
theorem dX6_cueAt_139 : decode cX6_cueAt 139 = .ok (.iload 4, 2) := by decide +kernel
theorem dX6_cueAt_141 : decode cX6_cueAt 141 = .ok (.if_icmp .gt 6, 3) := by decide +kernel
theorem dX6_cueAt_144 : decode cX6_cueAt 144 = .ok (.goto 10, 3) := by decide +kernel
theorem dX6_cueAt_147 : decode cX6_cueAt 147 = .ok (.iload 5, 2) := by decide +kernel
theorem dX6_cueAt_149 : decode cX6_cueAt 149 = .ok (.istore_n 3, 1) := by decide +kernel
theorem dX6_cueAt_150 : decode cX6_cueAt 150 = .ok (.iload 6, 2) := by decide +kernel
theorem dX6_cueAt_152 : decode cX6_cueAt 152 = .ok (.istore 4, 2) := by decide +kernel
theorem dX6_cueAt_154 : decode cX6_cueAt 154 = .ok (.iinc 5 1, 3) := by decide +kernel
theorem dX6_cueAt_157 : decode cX6_cueAt 157 = .ok (.goto (-101), 3) := by decide +kernel
theorem dX6_cueAt_160 : decode cX6_cueAt 160 = .ok (.iload_n 3, 1) := by decide +kernel
theorem dX6_cueAt_161 : decode cX6_cueAt 161 = .ok (.ireturn, 1) := by decide +kernel
theorem dX6_cue_0 : decode cX6_cue 0 = .ok (.aload_n 0, 1) := by decide +kernel
theorem dX6_cue_1 : decode cX6_cue 1 = .ok (.iload_n 1, 1) := by decide +kernel
theorem dX6_cue_2 : decode cX6_cue 2 = .ok (.invokevirtual 96, 3) := by decide +kernel
theorem dX6_cue_5 : decode cX6_cue 5 = .ok (.ifCond .eq 11, 3) := by decide +kernel
theorem dX6_cue_8 : decode cX6_cue 8 = .ok (.aload_n 0, 1) := by decide +kernel
theorem dX6_cue_9 : decode cX6_cue 9 = .ok (.iload_n 2, 1) := by decide +kernel
theorem dX6_cue_10 : decode cX6_cue 10 = .ok (.invokevirtual 100, 3) := by decide +kernel
theorem dX6_cue_13 : decode cX6_cue 13 = .ok (.ifCond .ne 9, 3) := by decide +kernel
theorem dX6_cue_16 : decode cX6_cue 16 = .ok (.aload_n 0, 1) := by decide +kernel
theorem dX6_cue_17 : decode cX6_cue 17 = .ok (.iconst 1, 1) := by decide +kernel
theorem dX6_cue_18 : decode cX6_cue 18 = .ok (.invokevirtual 92, 3) := by decide +kernel
theorem dX6_cue_21 : decode cX6_cue 21 = .ok (.ireturn, 1) := by decide +kernel
theorem dX6_cue_22 : decode cX6_cue 22 = .ok (.aload_n 0, 1) := by decide +kernel
theorem dX6_cue_23 : decode cX6_cue 23 = .ok (.invokevirtual 116, 3) := by decide +kernel
theorem dX6_cue_26 : decode cX6_cue 26 = .ok (.iconst 0, 1) := by decide +kernel
theorem dX6_cue_27 : decode cX6_cue 27 = .ok (.istore_n 3, 1) := by decide +kernel
theorem dX6_cue_28 : decode cX6_cue 28 = .ok (.iload_n 3, 1) := by decide +kernel
theorem dX6_cue_29 : decode cX6_cue 29 = .ok (.aload_n 0, 1) := by decide +kernel
theorem dX6_cue_30 : decode cX6_cue 30 = .ok (.getfield 106, 3) := by decide +kernel
theorem dX6_cue_33 : decode cX6_cue 33 = .ok (.if_icmp .ge 35, 3) := by decide +kernel
theorem dX6_cue_36 : decode cX6_cue 36 = .ok (.aload_n 0, 1) := by decide +kernel
theorem dX6_cue_37 : decode cX6_cue 37 = .ok (.getfield 50, 3) := by decide +kernel
theorem dX6_cue_40 : decode cX6_cue 40 = .ok (.iload_n 3, 1) := by decide +kernel
theorem dX6_cue_41 : decode cX6_cue 41 = .ok (.iaload, 1) := by decide +kernel
theorem dX6_cue_42 : decode cX6_cue 42 = .ok (.iload_n 2, 1) := by decide +kernel
theorem dX6_cue_43 : decode cX6_cue 43 = .ok (.if_icmp .ne 19, 3) := by decide +kernel
theorem dX6_cue_46 : decode cX6_cue 46 = .ok (.aload_n 0, 1) := by decide +kernel
theorem dX6_cue_47 : decode cX6_cue 47 = .ok (.iload_n 1, 1) := by decide +kernel
theorem dX6_cue_48 : decode cX6_cue 48 = .ok (.iload_n 3, 1) := by decide +kernel
theorem dX6_cue_49 : decode cX6_cue 49 = .ok (.invokevirtual 123, 3) := by decide +kernel
theorem dX6_cue_52 : decode cX6_cue 52 = .ok (.ifCond .lt 10, 3) := by decide +kernel
theorem dX6_cue_55 : decode cX6_cue 55 = .ok (.aload_n 0, 1) := by decide +kernel
theorem dX6_cue_56 : decode cX6_cue 56 = .ok (.iload_n 1, 1) := by decide +kernel
theorem dX6_cue_57 : decode cX6_cue 57 = .ok (.iload_n 3, 1) := by decide +kernel
theorem dX6_cue_58 : decode cX6_cue 58 = .ok (.invokevirtual 123, 3) := by decide +kernel
theorem dX6_cue_61 : decode cX6_cue 61 = .ok (.ireturn, 1) := by decide +kernel
theorem dX6_cue_62 : decode cX6_cue 62 = .ok (.iinc 3 1, 3) := by decide +kernel
theorem dX6_cue_65 : decode cX6_cue 65 = .ok (.goto (-37), 3) := by decide +kernel
theorem dX6_cue_68 : decode cX6_cue 68 = .ok (.aload_n 0, 1) := by decide +kernel
theorem dX6_cue_69 : decode cX6_cue 69 = .ok (.iconst 2, 1) := by decide +kernel
theorem dX6_cue_70 : decode cX6_cue 70 = .ok (.invokevirtual 92, 3) := by decide +kernel
theorem dX6_cue_73 : decode cX6_cue 73 = .ok (.ireturn, 1) := by decide +kernel
theorem dX6_key_0 : decode cX6_key 0 = .ok (.iload_n 1, 1) := by decide +kernel
theorem dX6_key_1 : decode cX6_key 1 = .ok (.bipush (-7), 2) := by decide +kernel
theorem dX6_key_3 : decode cX6_key 3 = .ok (.bipush 7, 2) := by decide +kernel
theorem dX6_key_5 : decode cX6_key 5 = .ok (.invokestatic 85, 3) := by decide +kernel
theorem dX6_key_8 : decode cX6_key 8 = .ok (.ifCond .ne 9, 3) := by decide +kernel
theorem dX6_key_11 : decode cX6_key 11 = .ok (.aload_n 0, 1) := by decide +kernel
theorem dX6_key_12 : decode cX6_key 12 = .ok (.iconst 1, 1) := by decide +kernel
theorem dX6_key_13 : decode cX6_key 13 = .ok (.invokevirtual 92, 3) := by decide +kernel
theorem dX6_key_16 : decode cX6_key 16 = .ok (.ireturn, 1) := by decide +kernel
theorem dX6_key_17 : decode cX6_key 17 = .ok (.aload_n 0, 1) := by decide +kernel
theorem dX6_key_18 : decode cX6_key 18 = .ok (.getfield 126, 3) := by decide +kernel
theorem dX6_key_21 : decode cX6_key 21 = .ok (.istore_n 2, 1) := by decide +kernel
theorem dX6_key_22 : decode cX6_key 22 = .ok (.aload_n 0, 1) := by decide +kernel
theorem dX6_key_23 : decode cX6_key 23 = .ok (.iload_n 1, 1) := by decide +kernel
theorem dX6_key_24 : decode cX6_key 24 = .ok (.putfield 126, 3) := by decide +kernel
theorem dX6_key_27 : decode cX6_key 27 = .ok (.iload_n 2, 1) := by decide +kernel
theorem dX6_key_28 : decode cX6_key 28 = .ok (.ireturn, 1) := by decide +kernel
theorem dX6_written_0 : decode cX6_written 0 = .ok (.aload_n 0, 1) := by decide +kernel
theorem dX6_written_1 : decode cX6_written 1 = .ok (.iload_n 1, 1) := by decide +kernel
theorem dX6_written_2 : decode cX6_written 2 = .ok (.invokevirtual 96, 3) := by decide +kernel
theorem dX6_written_5 : decode cX6_written 5 = .ok (.ifCond .ne 9, 3) := by decide +kernel
theorem dX6_written_8 : decode cX6_written 8 = .ok (.aload_n 0, 1) := by decide +kernel
theorem dX6_written_9 : decode cX6_written 9 = .ok (.iconst 1, 1) := by decide +kernel
theorem dX6_written_10 : decode cX6_written 10 = .ok (.invokevirtual 92, 3) := by decide +kernel
theorem dX6_written_13 : decode cX6_written 13 = .ok (.ireturn, 1) := by decide +kernel
theorem dX6_written_14 : decode cX6_written 14 = .ok (.aload_n 0, 1) := by decide +kernel
theorem dX6_written_15 : decode cX6_written 15 = .ok (.getfield 126, 3) := by decide +kernel
theorem dX6_written_18 : decode cX6_written 18 = .ok (.bipush 7, 2) := by decide +kernel
theorem dX6_written_20 : decode cX6_written 20 = .ok (.aload_n 0, 1) := by decide +kernel
theorem dX6_written_21 : decode cX6_written 21 = .ok (.getfield 32, 3) := by decide +kernel
theorem dX6_written_24 : decode cX6_written 24 = .ok (.iload_n 1, 1) := by decide +kernel
theorem dX6_written_25 : decode cX6_written 25 = .ok (.iaload, 1) := by decide +kernel
theorem dX6_written_26 : decode cX6_written 26 = .ok (.imul, 1) := by decide +kernel
theorem dX6_written_27 : decode cX6_written 27 = .ok (.iadd, 1) := by decide +kernel
theorem dX6_written_28 : decode cX6_written 28 = .ok (.istore_n 2, 1) := by decide +kernel
theorem dX6_written_29 : decode cX6_written 29 = .ok (.iload_n 2, 1) := by decide +kernel
theorem dX6_written_30 : decode cX6_written 30 = .ok (.iconst 5, 1) := by decide +kernel
theorem dX6_written_31 : decode cX6_written 31 = .ok (.if_icmp .le 9, 3) := by decide +kernel
theorem dX6_written_34 : decode cX6_written 34 = .ok (.iinc 2 (-12), 3) := by decide +kernel
theorem dX6_written_37 : decode cX6_written 37 = .ok (.goto (-8), 3) := by decide +kernel
theorem dX6_written_40 : decode cX6_written 40 = .ok (.iload_n 2, 1) := by decide +kernel
theorem dX6_written_41 : decode cX6_written 41 = .ok (.bipush (-6), 2) := by decide +kernel
theorem dX6_written_43 : decode cX6_written 43 = .ok (.if_icmp .ge 9, 3) := by decide +kernel
theorem dX6_written_46 : decode cX6_written 46 = .ok (.iinc 2 12, 3) := by decide +kernel
theorem dX6_written_49 : decode cX6_written 49 = .ok (.goto (-9), 3) := by decide +kernel
theorem dX6_written_52 : decode cX6_written 52 = .ok (.iload_n 2, 1) := by decide +kernel
theorem dX6_written_53 : decode cX6_written 53 = .ok (.ireturn, 1) := by decide +kernel
theorem dX6_due_0 : decode cX6_due 0 = .ok (.iload_n 1, 1) := by decide +kernel
theorem dX6_due_1 : decode cX6_due 1 = .ok (.iconst 1, 1) := by decide +kernel
theorem dX6_due_2 : decode cX6_due 2 = .ok (.bipush 20, 2) := by decide +kernel
theorem dX6_due_4 : decode cX6_due 4 = .ok (.invokestatic 85, 3) := by decide +kernel
theorem dX6_due_7 : decode cX6_due 7 = .ok (.ifCond .ne 9, 3) := by decide +kernel
theorem dX6_due_10 : decode cX6_due 10 = .ok (.aload_n 0, 1) := by decide +kernel
theorem dX6_due_11 : decode cX6_due 11 = .ok (.iconst 1, 1) := by decide +kernel
theorem dX6_due_12 : decode cX6_due 12 = .ok (.invokevirtual 92, 3) := by decide +kernel
theorem dX6_due_15 : decode cX6_due 15 = .ok (.ireturn, 1) := by decide +kernel
theorem dX6_due_16 : decode cX6_due 16 = .ok (.aload_n 0, 1) := by decide +kernel
theorem dX6_due_17 : decode cX6_due 17 = .ok (.getfield 7, 3) := by decide +kernel
theorem dX6_due_20 : decode cX6_due 20 = .ok (.istore_n 2, 1) := by decide +kernel
theorem dX6_due_21 : decode cX6_due 21 = .ok (.aload_n 0, 1) := by decide +kernel
theorem dX6_due_22 : decode cX6_due 22 = .ok (.iload_n 1, 1) := by decide +kernel
theorem dX6_due_23 : decode cX6_due 23 = .ok (.putfield 7, 3) := by decide +kernel
theorem dX6_due_26 : decode cX6_due 26 = .ok (.iload_n 2, 1) := by decide +kernel
theorem dX6_due_27 : decode cX6_due 27 = .ok (.ireturn, 1) := by decide +kernel
theorem dX6_paper_0 : decode cX6_paper 0 = .ok (.iload_n 1, 1) := by decide +kernel
theorem dX6_paper_1 : decode cX6_paper 1 = .ok (.bipush 21, 2) := by decide +kernel
theorem dX6_paper_3 : decode cX6_paper 3 = .ok (.bipush 60, 2) := by decide +kernel
theorem dX6_paper_5 : decode cX6_paper 5 = .ok (.invokestatic 85, 3) := by decide +kernel
theorem dX6_paper_8 : decode cX6_paper 8 = .ok (.ifCond .eq 13, 3) := by decide +kernel
theorem dX6_paper_11 : decode cX6_paper 11 = .ok (.iload_n 2, 1) := by decide +kernel
theorem dX6_paper_12 : decode cX6_paper 12 = .ok (.iconst 1, 1) := by decide +kernel
theorem dX6_paper_13 : decode cX6_paper 13 = .ok (.bipush 8, 2) := by decide +kernel
theorem dX6_paper_15 : decode cX6_paper 15 = .ok (.invokestatic 85, 3) := by decide +kernel
theorem dX6_paper_18 : decode cX6_paper 18 = .ok (.ifCond .ne 9, 3) := by decide +kernel
theorem dX6_paper_21 : decode cX6_paper 21 = .ok (.aload_n 0, 1) := by decide +kernel
theorem dX6_paper_22 : decode cX6_paper 22 = .ok (.iconst 1, 1) := by decide +kernel
theorem dX6_paper_23 : decode cX6_paper 23 = .ok (.invokevirtual 92, 3) := by decide +kernel
theorem dX6_paper_26 : decode cX6_paper 26 = .ok (.ireturn, 1) := by decide +kernel
theorem dX6_paper_27 : decode cX6_paper 27 = .ok (.aload_n 0, 1) := by decide +kernel
theorem dX6_paper_28 : decode cX6_paper 28 = .ok (.iload_n 1, 1) := by decide +kernel
theorem dX6_paper_29 : decode cX6_paper 29 = .ok (.putfield 13, 3) := by decide +kernel
theorem dX6_paper_32 : decode cX6_paper 32 = .ok (.aload_n 0, 1) := by decide +kernel
theorem dX6_paper_33 : decode cX6_paper 33 = .ok (.iload_n 2, 1) := by decide +kernel
theorem dX6_paper_34 : decode cX6_paper 34 = .ok (.putfield 16, 3) := by decide +kernel
theorem dX6_paper_37 : decode cX6_paper 37 = .ok (.iconst 1, 1) := by decide +kernel
theorem dX6_paper_38 : decode cX6_paper 38 = .ok (.ireturn, 1) := by decide +kernel
theorem dX6_need_0 : decode cX6_need 0 = .ok (.iload_n 1, 1) := by decide +kernel
theorem dX6_need_1 : decode cX6_need 1 = .ok (.iconst 0, 1) := by decide +kernel
theorem dX6_need_2 : decode cX6_need 2 = .ok (.bipush 60, 2) := by decide +kernel
theorem dX6_need_4 : decode cX6_need 4 = .ok (.invokestatic 85, 3) := by decide +kernel
theorem dX6_need_7 : decode cX6_need 7 = .ok (.ifCond .ne 9, 3) := by decide +kernel
theorem dX6_need_10 : decode cX6_need 10 = .ok (.aload_n 0, 1) := by decide +kernel
theorem dX6_need_11 : decode cX6_need 11 = .ok (.iconst 1, 1) := by decide +kernel
theorem dX6_need_12 : decode cX6_need 12 = .ok (.invokevirtual 92, 3) := by decide +kernel
theorem dX6_need_15 : decode cX6_need 15 = .ok (.ireturn, 1) := by decide +kernel
theorem dX6_need_16 : decode cX6_need 16 = .ok (.aload_n 0, 1) := by decide +kernel
theorem dX6_need_17 : decode cX6_need 17 = .ok (.getfield 19, 3) := by decide +kernel
theorem dX6_need_20 : decode cX6_need 20 = .ok (.istore_n 2, 1) := by decide +kernel
theorem dX6_need_21 : decode cX6_need 21 = .ok (.aload_n 0, 1) := by decide +kernel
theorem dX6_need_22 : decode cX6_need 22 = .ok (.iload_n 1, 1) := by decide +kernel
theorem dX6_need_23 : decode cX6_need 23 = .ok (.putfield 19, 3) := by decide +kernel
theorem dX6_need_26 : decode cX6_need 26 = .ok (.iload_n 2, 1) := by decide +kernel
theorem dX6_need_27 : decode cX6_need 27 = .ok (.ireturn, 1) := by decide +kernel
theorem dX6_systemsOf_0 : decode cX6_systemsOf 0 = .ok (.iconst 1, 1) := by decide +kernel
theorem dX6_systemsOf_1 : decode cX6_systemsOf 1 = .ok (.istore 4, 2) := by decide +kernel
theorem dX6_systemsOf_3 : decode cX6_systemsOf 3 = .ok (.iconst 0, 1) := by decide +kernel
theorem dX6_systemsOf_4 : decode cX6_systemsOf 4 = .ok (.istore 5, 2) := by decide +kernel
theorem dX6_systemsOf_6 : decode cX6_systemsOf 6 = .ok (.iload_n 2, 1) := by decide +kernel
theorem dX6_systemsOf_7 : decode cX6_systemsOf 7 = .ok (.istore 6, 2) := by decide +kernel
theorem dX6_systemsOf_9 : decode cX6_systemsOf 9 = .ok (.iload 6, 2) := by decide +kernel
theorem dX6_systemsOf_11 : decode cX6_systemsOf 11 = .ok (.iload_n 3, 1) := by decide +kernel
theorem dX6_systemsOf_12 : decode cX6_systemsOf 12 = .ok (.if_icmp .ge 68, 3) := by decide +kernel
theorem dX6_systemsOf_15 : decode cX6_systemsOf 15 = .ok (.iload 6, 2) := by decide +kernel
theorem dX6_systemsOf_17 : decode cX6_systemsOf 17 = .ok (.iload_n 2, 1) := by decide +kernel
theorem dX6_systemsOf_18 : decode cX6_systemsOf 18 = .ok (.if_icmp .ne 7, 3) := by decide +kernel
theorem dX6_systemsOf_21 : decode cX6_systemsOf 21 = .ok (.iconst 1, 1) := by decide +kernel
theorem dX6_systemsOf_22 : decode cX6_systemsOf 22 = .ok (.goto 4, 3) := by decide +kernel
theorem dX6_systemsOf_25 : decode cX6_systemsOf 25 = .ok (.iconst 0, 1) := by decide +kernel
theorem dX6_systemsOf_26 : decode cX6_systemsOf 26 = .ok (.istore 7, 2) := by decide +kernel
theorem dX6_systemsOf_28 : decode cX6_systemsOf 28 = .ok (.aload_n 0, 1) := by decide +kernel
theorem dX6_systemsOf_29 : decode cX6_systemsOf 29 = .ok (.iload_n 1, 1) := by decide +kernel
theorem dX6_systemsOf_30 : decode cX6_systemsOf 30 = .ok (.iload 6, 2) := by decide +kernel
theorem dX6_systemsOf_32 : decode cX6_systemsOf 32 = .ok (.iload 7, 2) := by decide +kernel
theorem dX6_systemsOf_34 : decode cX6_systemsOf 34 = .ok (.invokevirtual 129, 3) := by decide +kernel
theorem dX6_systemsOf_37 : decode cX6_systemsOf 37 = .ok (.istore 8, 2) := by decide +kernel
theorem dX6_systemsOf_39 : decode cX6_systemsOf 39 = .ok (.iload 5, 2) := by decide +kernel
theorem dX6_systemsOf_41 : decode cX6_systemsOf 41 = .ok (.iload 8, 2) := by decide +kernel
theorem dX6_systemsOf_43 : decode cX6_systemsOf 43 = .ok (.iadd, 1) := by decide +kernel
theorem dX6_systemsOf_44 : decode cX6_systemsOf 44 = .ok (.aload_n 0, 1) := by decide +kernel
theorem dX6_systemsOf_45 : decode cX6_systemsOf 45 = .ok (.getfield 13, 3) := by decide +kernel
theorem dX6_systemsOf_48 : decode cX6_systemsOf 48 = .ok (.if_icmp .le 19, 3) := by decide +kernel
theorem dX6_systemsOf_51 : decode cX6_systemsOf 51 = .ok (.iinc 4 1, 3) := by decide +kernel
theorem dX6_systemsOf_54 : decode cX6_systemsOf 54 = .ok (.iconst 0, 1) := by decide +kernel
theorem dX6_systemsOf_55 : decode cX6_systemsOf 55 = .ok (.istore 5, 2) := by decide +kernel
theorem dX6_systemsOf_57 : decode cX6_systemsOf 57 = .ok (.aload_n 0, 1) := by decide +kernel
theorem dX6_systemsOf_58 : decode cX6_systemsOf 58 = .ok (.iload_n 1, 1) := by decide +kernel
theorem dX6_systemsOf_59 : decode cX6_systemsOf 59 = .ok (.iload 6, 2) := by decide +kernel
theorem dX6_systemsOf_61 : decode cX6_systemsOf 61 = .ok (.iconst 1, 1) := by decide +kernel
theorem dX6_systemsOf_62 : decode cX6_systemsOf 62 = .ok (.invokevirtual 129, 3) := by decide +kernel
theorem dX6_systemsOf_65 : decode cX6_systemsOf 65 = .ok (.istore 8, 2) := by decide +kernel
theorem dX6_systemsOf_67 : decode cX6_systemsOf 67 = .ok (.iload 5, 2) := by decide +kernel
theorem dX6_systemsOf_69 : decode cX6_systemsOf 69 = .ok (.iload 8, 2) := by decide +kernel
theorem dX6_systemsOf_71 : decode cX6_systemsOf 71 = .ok (.iadd, 1) := by decide +kernel
theorem dX6_systemsOf_72 : decode cX6_systemsOf 72 = .ok (.istore 5, 2) := by decide +kernel
theorem dX6_systemsOf_74 : decode cX6_systemsOf 74 = .ok (.iinc 6 1, 3) := by decide +kernel
theorem dX6_systemsOf_77 : decode cX6_systemsOf 77 = .ok (.goto (-68), 3) := by decide +kernel
theorem dX6_systemsOf_80 : decode cX6_systemsOf 80 = .ok (.iload 4, 2) := by decide +kernel
theorem dX6_systemsOf_82 : decode cX6_systemsOf 82 = .ok (.ireturn, 1) := by decide +kernel
theorem dX6_widthOf_0 : decode cX6_widthOf 0 = .ok (.aload_n 0, 1) := by decide +kernel
theorem dX6_widthOf_1 : decode cX6_widthOf 1 = .ok (.iload_n 1, 1) := by decide +kernel
theorem dX6_widthOf_2 : decode cX6_widthOf 2 = .ok (.iload_n 2, 1) := by decide +kernel
theorem dX6_widthOf_3 : decode cX6_widthOf 3 = .ok (.invokevirtual 109, 3) := by decide +kernel
theorem dX6_widthOf_6 : decode cX6_widthOf 6 = .ok (.ifCond .eq 22, 3) := by decide +kernel
theorem dX6_widthOf_9 : decode cX6_widthOf 9 = .ok (.iload_n 3, 1) := by decide +kernel
theorem dX6_widthOf_10 : decode cX6_widthOf 10 = .ok (.ifCond .ne 12, 3) := by decide +kernel
theorem dX6_widthOf_13 : decode cX6_widthOf 13 = .ok (.aload_n 0, 1) := by decide +kernel
theorem dX6_widthOf_14 : decode cX6_widthOf 14 = .ok (.iload_n 1, 1) := by decide +kernel
theorem dX6_widthOf_15 : decode cX6_widthOf 15 = .ok (.iload_n 2, 1) := by decide +kernel
theorem dX6_widthOf_16 : decode cX6_widthOf 16 = .ok (.invokevirtual 113, 3) := by decide +kernel
theorem dX6_widthOf_19 : decode cX6_widthOf 19 = .ok (.ifCond .eq 7, 3) := by decide +kernel
theorem dX6_widthOf_22 : decode cX6_widthOf 22 = .ok (.iconst 4, 1) := by decide +kernel
theorem dX6_widthOf_23 : decode cX6_widthOf 23 = .ok (.goto 4, 3) := by decide +kernel
theorem dX6_widthOf_26 : decode cX6_widthOf 26 = .ok (.iconst 0, 1) := by decide +kernel
theorem dX6_widthOf_27 : decode cX6_widthOf 27 = .ok (.ireturn, 1) := by decide +kernel
theorem dX6_widthOf_28 : decode cX6_widthOf 28 = .ok (.iconst 2, 1) := by decide +kernel
theorem dX6_widthOf_29 : decode cX6_widthOf 29 = .ok (.aload_n 0, 1) := by decide +kernel
theorem dX6_widthOf_30 : decode cX6_widthOf 30 = .ok (.getfield 38, 3) := by decide +kernel
theorem dX6_widthOf_33 : decode cX6_widthOf 33 = .ok (.bipush 40, 2) := by decide +kernel
theorem dX6_widthOf_35 : decode cX6_widthOf 35 = .ok (.iload_n 1, 1) := by decide +kernel
theorem dX6_widthOf_36 : decode cX6_widthOf 36 = .ok (.imul, 1) := by decide +kernel
theorem dX6_widthOf_37 : decode cX6_widthOf 37 = .ok (.aload_n 0, 1) := by decide +kernel
theorem dX6_widthOf_38 : decode cX6_widthOf 38 = .ok (.getfield 50, 3) := by decide +kernel
theorem dX6_widthOf_41 : decode cX6_widthOf 41 = .ok (.iload_n 2, 1) := by decide +kernel
theorem dX6_widthOf_42 : decode cX6_widthOf 42 = .ok (.iaload, 1) := by decide +kernel
theorem dX6_widthOf_43 : decode cX6_widthOf 43 = .ok (.iadd, 1) := by decide +kernel
theorem dX6_widthOf_44 : decode cX6_widthOf 44 = .ok (.iaload, 1) := by decide +kernel
theorem dX6_widthOf_45 : decode cX6_widthOf 45 = .ok (.iadd, 1) := by decide +kernel
theorem dX6_widthOf_46 : decode cX6_widthOf 46 = .ok (.aload_n 0, 1) := by decide +kernel
theorem dX6_widthOf_47 : decode cX6_widthOf 47 = .ok (.iload_n 1, 1) := by decide +kernel
theorem dX6_widthOf_48 : decode cX6_widthOf 48 = .ok (.iload_n 2, 1) := by decide +kernel
theorem dX6_widthOf_49 : decode cX6_widthOf 49 = .ok (.invokevirtual 123, 3) := by decide +kernel
theorem dX6_widthOf_52 : decode cX6_widthOf 52 = .ok (.ifCond .lt 7, 3) := by decide +kernel
theorem dX6_widthOf_55 : decode cX6_widthOf 55 = .ok (.iconst 3, 1) := by decide +kernel
theorem dX6_widthOf_56 : decode cX6_widthOf 56 = .ok (.goto 4, 3) := by decide +kernel
theorem dX6_widthOf_59 : decode cX6_widthOf 59 = .ok (.iconst 0, 1) := by decide +kernel
theorem dX6_widthOf_60 : decode cX6_widthOf 60 = .ok (.iadd, 1) := by decide +kernel
theorem dX6_widthOf_61 : decode cX6_widthOf 61 = .ok (.ireturn, 1) := by decide +kernel
theorem dX6_freeAt_0 : decode cX6_freeAt 0 = .ok (.iconst 0, 1) := by decide +kernel
theorem dX6_freeAt_1 : decode cX6_freeAt 1 = .ok (.istore_n 3, 1) := by decide +kernel
theorem dX6_freeAt_2 : decode cX6_freeAt 2 = .ok (.iload_n 2, 1) := by decide +kernel
theorem dX6_freeAt_3 : decode cX6_freeAt 3 = .ok (.iconst 1, 1) := by decide +kernel
theorem dX6_freeAt_4 : decode cX6_freeAt 4 = .ok (.isub, 1) := by decide +kernel
theorem dX6_freeAt_5 : decode cX6_freeAt 5 = .ok (.istore 4, 2) := by decide +kernel
theorem dX6_freeAt_7 : decode cX6_freeAt 7 = .ok (.iload 4, 2) := by decide +kernel
theorem dX6_freeAt_9 : decode cX6_freeAt 9 = .ok (.ifCond .lt 34, 3) := by decide +kernel
theorem dX6_freeAt_12 : decode cX6_freeAt 12 = .ok (.aload_n 0, 1) := by decide +kernel
theorem dX6_freeAt_13 : decode cX6_freeAt 13 = .ok (.iload_n 1, 1) := by decide +kernel
theorem dX6_freeAt_14 : decode cX6_freeAt 14 = .ok (.iload 4, 2) := by decide +kernel
theorem dX6_freeAt_16 : decode cX6_freeAt 16 = .ok (.invokevirtual 109, 3) := by decide +kernel
theorem dX6_freeAt_19 : decode cX6_freeAt 19 = .ok (.ifCond .eq 24, 3) := by decide +kernel
theorem dX6_freeAt_22 : decode cX6_freeAt 22 = .ok (.iload_n 3, 1) := by decide +kernel
theorem dX6_freeAt_23 : decode cX6_freeAt 23 = .ok (.aload_n 0, 1) := by decide +kernel
theorem dX6_freeAt_24 : decode cX6_freeAt 24 = .ok (.getfield 22, 3) := by decide +kernel
theorem dX6_freeAt_27 : decode cX6_freeAt 27 = .ok (.aload_n 0, 1) := by decide +kernel
theorem dX6_freeAt_28 : decode cX6_freeAt 28 = .ok (.getfield 50, 3) := by decide +kernel
theorem dX6_freeAt_31 : decode cX6_freeAt 31 = .ok (.iload 4, 2) := by decide +kernel
theorem dX6_freeAt_33 : decode cX6_freeAt 33 = .ok (.iaload, 1) := by decide +kernel
theorem dX6_freeAt_34 : decode cX6_freeAt 34 = .ok (.iaload, 1) := by decide +kernel
theorem dX6_freeAt_35 : decode cX6_freeAt 35 = .ok (.iadd, 1) := by decide +kernel
theorem dX6_freeAt_36 : decode cX6_freeAt 36 = .ok (.istore_n 3, 1) := by decide +kernel
theorem dX6_freeAt_37 : decode cX6_freeAt 37 = .ok (.iinc 4 (-1), 3) := by decide +kernel
theorem dX6_freeAt_40 : decode cX6_freeAt 40 = .ok (.goto (-33), 3) := by decide +kernel
theorem dX6_freeAt_43 : decode cX6_freeAt 43 = .ok (.iload_n 2, 1) := by decide +kernel
theorem dX6_freeAt_44 : decode cX6_freeAt 44 = .ok (.istore 4, 2) := by decide +kernel
theorem dX6_freeAt_46 : decode cX6_freeAt 46 = .ok (.iload 4, 2) := by decide +kernel
theorem dX6_freeAt_48 : decode cX6_freeAt 48 = .ok (.aload_n 0, 1) := by decide +kernel
theorem dX6_freeAt_49 : decode cX6_freeAt 49 = .ok (.getfield 106, 3) := by decide +kernel
theorem dX6_freeAt_52 : decode cX6_freeAt 52 = .ok (.if_icmp .ge 34, 3) := by decide +kernel
theorem dX6_freeAt_55 : decode cX6_freeAt 55 = .ok (.aload_n 0, 1) := by decide +kernel
theorem dX6_freeAt_56 : decode cX6_freeAt 56 = .ok (.iload_n 1, 1) := by decide +kernel
theorem dX6_freeAt_57 : decode cX6_freeAt 57 = .ok (.iload 4, 2) := by decide +kernel
theorem dX6_freeAt_59 : decode cX6_freeAt 59 = .ok (.invokevirtual 109, 3) := by decide +kernel
theorem dX6_freeAt_62 : decode cX6_freeAt 62 = .ok (.ifCond .eq 24, 3) := by decide +kernel
theorem dX6_freeAt_65 : decode cX6_freeAt 65 = .ok (.iload_n 3, 1) := by decide +kernel
theorem dX6_freeAt_66 : decode cX6_freeAt 66 = .ok (.aload_n 0, 1) := by decide +kernel
theorem dX6_freeAt_67 : decode cX6_freeAt 67 = .ok (.getfield 22, 3) := by decide +kernel
theorem dX6_freeAt_70 : decode cX6_freeAt 70 = .ok (.aload_n 0, 1) := by decide +kernel
theorem dX6_freeAt_71 : decode cX6_freeAt 71 = .ok (.getfield 50, 3) := by decide +kernel
theorem dX6_freeAt_74 : decode cX6_freeAt 74 = .ok (.iload 4, 2) := by decide +kernel
theorem dX6_freeAt_76 : decode cX6_freeAt 76 = .ok (.iaload, 1) := by decide +kernel
theorem dX6_freeAt_77 : decode cX6_freeAt 77 = .ok (.iaload, 1) := by decide +kernel
theorem dX6_freeAt_78 : decode cX6_freeAt 78 = .ok (.iadd, 1) := by decide +kernel
theorem dX6_freeAt_79 : decode cX6_freeAt 79 = .ok (.istore_n 3, 1) := by decide +kernel
theorem dX6_freeAt_80 : decode cX6_freeAt 80 = .ok (.iinc 4 1, 3) := by decide +kernel
theorem dX6_freeAt_83 : decode cX6_freeAt 83 = .ok (.goto (-37), 3) := by decide +kernel
theorem dX6_freeAt_86 : decode cX6_freeAt 86 = .ok (.iload_n 3, 1) := by decide +kernel
theorem dX6_freeAt_87 : decode cX6_freeAt 87 = .ok (.ireturn, 1) := by decide +kernel
theorem dX6_isBad_0 : decode cX6_isBad 0 = .ok (.aload_n 0, 1) := by decide +kernel
theorem dX6_isBad_1 : decode cX6_isBad 1 = .ok (.iload_n 1, 1) := by decide +kernel
theorem dX6_isBad_2 : decode cX6_isBad 2 = .ok (.iload_n 2, 1) := by decide +kernel
theorem dX6_isBad_3 : decode cX6_isBad 3 = .ok (.invokevirtual 133, 3) := by decide +kernel
theorem dX6_isBad_6 : decode cX6_isBad 6 = .ok (.aload_n 0, 1) := by decide +kernel
theorem dX6_isBad_7 : decode cX6_isBad 7 = .ok (.getfield 29, 3) := by decide +kernel
theorem dX6_isBad_10 : decode cX6_isBad 10 = .ok (.iload_n 1, 1) := by decide +kernel
theorem dX6_isBad_11 : decode cX6_isBad 11 = .ok (.iaload, 1) := by decide +kernel
theorem dX6_isBad_12 : decode cX6_isBad 12 = .ok (.iconst 1, 1) := by decide +kernel
theorem dX6_isBad_13 : decode cX6_isBad 13 = .ok (.if_icmp .ne 12, 3) := by decide +kernel
theorem dX6_isBad_16 : decode cX6_isBad 16 = .ok (.aload_n 0, 1) := by decide +kernel
theorem dX6_isBad_17 : decode cX6_isBad 17 = .ok (.getfield 19, 3) := by decide +kernel
theorem dX6_isBad_20 : decode cX6_isBad 20 = .ok (.iconst 2, 1) := by decide +kernel
theorem dX6_isBad_21 : decode cX6_isBad 21 = .ok (.idiv, 1) := by decide +kernel
theorem dX6_isBad_22 : decode cX6_isBad 22 = .ok (.goto 7, 3) := by decide +kernel
theorem dX6_isBad_25 : decode cX6_isBad 25 = .ok (.aload_n 0, 1) := by decide +kernel
theorem dX6_isBad_26 : decode cX6_isBad 26 = .ok (.getfield 19, 3) := by decide +kernel
theorem dX6_isBad_29 : decode cX6_isBad 29 = .ok (.if_icmp .ge 7, 3) := by decide +kernel
theorem dX6_isBad_32 : decode cX6_isBad 32 = .ok (.iconst 1, 1) := by decide +kernel
theorem dX6_isBad_33 : decode cX6_isBad 33 = .ok (.goto 4, 3) := by decide +kernel
theorem dX6_isBad_36 : decode cX6_isBad 36 = .ok (.iconst 0, 1) := by decide +kernel
theorem dX6_isBad_37 : decode cX6_isBad 37 = .ok (.ireturn, 1) := by decide +kernel
theorem dX6_findPages_0 : decode cX6_findPages 0 = .ok (.aload_n 0, 1) := by decide +kernel
theorem dX6_findPages_1 : decode cX6_findPages 1 = .ok (.invokevirtual 116, 3) := by decide +kernel
theorem dX6_findPages_4 : decode cX6_findPages 4 = .ok (.aload_n 0, 1) := by decide +kernel
theorem dX6_findPages_5 : decode cX6_findPages 5 = .ok (.getfield 53, 3) := by decide +kernel
theorem dX6_findPages_8 : decode cX6_findPages 8 = .ok (.aload_n 0, 1) := by decide +kernel
theorem dX6_findPages_9 : decode cX6_findPages 9 = .ok (.getfield 106, 3) := by decide +kernel
theorem dX6_findPages_12 : decode cX6_findPages 12 = .ok (.iconst 0, 1) := by decide +kernel
theorem dX6_findPages_13 : decode cX6_findPages 13 = .ok (.iastore, 1) := by decide +kernel
theorem dX6_findPages_14 : decode cX6_findPages 14 = .ok (.aload_n 0, 1) := by decide +kernel
theorem dX6_findPages_15 : decode cX6_findPages 15 = .ok (.getfield 56, 3) := by decide +kernel
theorem dX6_findPages_18 : decode cX6_findPages 18 = .ok (.aload_n 0, 1) := by decide +kernel
theorem dX6_findPages_19 : decode cX6_findPages 19 = .ok (.getfield 106, 3) := by decide +kernel
theorem dX6_findPages_22 : decode cX6_findPages 22 = .ok (.iconst 0, 1) := by decide +kernel
theorem dX6_findPages_23 : decode cX6_findPages 23 = .ok (.iastore, 1) := by decide +kernel
theorem dX6_findPages_24 : decode cX6_findPages 24 = .ok (.aload_n 0, 1) := by decide +kernel
theorem dX6_findPages_25 : decode cX6_findPages 25 = .ok (.getfield 106, 3) := by decide +kernel
theorem dX6_findPages_28 : decode cX6_findPages 28 = .ok (.iconst 1, 1) := by decide +kernel
theorem dX6_findPages_29 : decode cX6_findPages 29 = .ok (.isub, 1) := by decide +kernel
theorem dX6_findPages_30 : decode cX6_findPages 30 = .ok (.istore_n 2, 1) := by decide +kernel
theorem dX6_findPages_31 : decode cX6_findPages 31 = .ok (.iload_n 2, 1) := by decide +kernel
theorem dX6_findPages_32 : decode cX6_findPages 32 = .ok (.ifCond .lt 167, 3) := by decide +kernel
theorem dX6_findPages_35 : decode cX6_findPages 35 = .ok (.aload_n 0, 1) := by decide +kernel
theorem dX6_findPages_36 : decode cX6_findPages 36 = .ok (.getfield 59, 3) := by decide +kernel
theorem dX6_findPages_39 : decode cX6_findPages 39 = .ok (.iload_n 2, 1) := by decide +kernel
theorem dX6_findPages_40 : decode cX6_findPages 40 = .ok (.iconst 0, 1) := by decide +kernel
theorem dX6_findPages_41 : decode cX6_findPages 41 = .ok (.iastore, 1) := by decide +kernel
theorem dX6_findPages_42 : decode cX6_findPages 42 = .ok (.iconst 1, 1) := by decide +kernel
theorem dX6_findPages_43 : decode cX6_findPages 43 = .ok (.istore_n 3, 1) := by decide +kernel
theorem dX6_findPages_44 : decode cX6_findPages 44 = .ok (.iload_n 2, 1) := by decide +kernel
theorem dX6_findPages_45 : decode cX6_findPages 45 = .ok (.iload_n 3, 1) := by decide +kernel
theorem dX6_findPages_46 : decode cX6_findPages 46 = .ok (.iadd, 1) := by decide +kernel
theorem dX6_findPages_47 : decode cX6_findPages 47 = .ok (.aload_n 0, 1) := by decide +kernel
theorem dX6_findPages_48 : decode cX6_findPages 48 = .ok (.getfield 106, 3) := by decide +kernel
theorem dX6_findPages_51 : decode cX6_findPages 51 = .ok (.if_icmp .gt 142, 3) := by decide +kernel
theorem dX6_findPages_54 : decode cX6_findPages 54 = .ok (.aload_n 0, 1) := by decide +kernel
theorem dX6_findPages_55 : decode cX6_findPages 55 = .ok (.iload_n 1, 1) := by decide +kernel
theorem dX6_findPages_56 : decode cX6_findPages 56 = .ok (.iload_n 2, 1) := by decide +kernel
theorem dX6_findPages_57 : decode cX6_findPages 57 = .ok (.iload_n 2, 1) := by decide +kernel
theorem dX6_findPages_58 : decode cX6_findPages 58 = .ok (.iload_n 3, 1) := by decide +kernel
theorem dX6_findPages_59 : decode cX6_findPages 59 = .ok (.iadd, 1) := by decide +kernel
theorem dX6_findPages_60 : decode cX6_findPages 60 = .ok (.invokevirtual 136, 3) := by decide +kernel
theorem dX6_findPages_63 : decode cX6_findPages 63 = .ok (.aload_n 0, 1) := by decide +kernel
theorem dX6_findPages_64 : decode cX6_findPages 64 = .ok (.getfield 16, 3) := by decide +kernel
theorem dX6_findPages_67 : decode cX6_findPages 67 = .ok (.if_icmp .gt 126, 3) := by decide +kernel
theorem dX6_findPages_70 : decode cX6_findPages 70 = .ok (.aload_n 0, 1) := by decide +kernel
theorem dX6_findPages_71 : decode cX6_findPages 71 = .ok (.getfield 53, 3) := by decide +kernel
theorem dX6_findPages_74 : decode cX6_findPages 74 = .ok (.iload_n 2, 1) := by decide +kernel
theorem dX6_findPages_75 : decode cX6_findPages 75 = .ok (.iload_n 3, 1) := by decide +kernel
theorem dX6_findPages_76 : decode cX6_findPages 76 = .ok (.iadd, 1) := by decide +kernel
theorem dX6_findPages_77 : decode cX6_findPages 77 = .ok (.iaload, 1) := by decide +kernel
theorem dX6_findPages_78 : decode cX6_findPages 78 = .ok (.iload_n 2, 1) := by decide +kernel
theorem dX6_findPages_79 : decode cX6_findPages 79 = .ok (.iload_n 3, 1) := by decide +kernel
theorem dX6_findPages_80 : decode cX6_findPages 80 = .ok (.iadd, 1) := by decide +kernel
theorem dX6_findPages_81 : decode cX6_findPages 81 = .ok (.aload_n 0, 1) := by decide +kernel
theorem dX6_findPages_82 : decode cX6_findPages 82 = .ok (.getfield 106, 3) := by decide +kernel
theorem dX6_findPages_85 : decode cX6_findPages 85 = .ok (.if_icmp .ge 18, 3) := by decide +kernel
theorem dX6_findPages_88 : decode cX6_findPages 88 = .ok (.aload_n 0, 1) := by decide +kernel
theorem dX6_findPages_89 : decode cX6_findPages 89 = .ok (.iload_n 1, 1) := by decide +kernel
theorem dX6_findPages_90 : decode cX6_findPages 90 = .ok (.iload_n 2, 1) := by decide +kernel
theorem dX6_findPages_91 : decode cX6_findPages 91 = .ok (.iload_n 3, 1) := by decide +kernel
theorem dX6_findPages_92 : decode cX6_findPages 92 = .ok (.iadd, 1) := by decide +kernel
theorem dX6_findPages_93 : decode cX6_findPages 93 = .ok (.invokevirtual 140, 3) := by decide +kernel
theorem dX6_findPages_96 : decode cX6_findPages 96 = .ok (.ifCond .eq 7, 3) := by decide +kernel
theorem dX6_findPages_99 : decode cX6_findPages 99 = .ok (.iconst 1, 1) := by decide +kernel
theorem dX6_findPages_100 : decode cX6_findPages 100 = .ok (.goto 4, 3) := by decide +kernel
theorem dX6_findPages_103 : decode cX6_findPages 103 = .ok (.iconst 0, 1) := by decide +kernel
theorem dX6_findPages_104 : decode cX6_findPages 104 = .ok (.iadd, 1) := by decide +kernel
theorem dX6_findPages_105 : decode cX6_findPages 105 = .ok (.istore 4, 2) := by decide +kernel
theorem dX6_findPages_107 : decode cX6_findPages 107 = .ok (.aload_n 0, 1) := by decide +kernel
theorem dX6_findPages_108 : decode cX6_findPages 108 = .ok (.getfield 56, 3) := by decide +kernel
theorem dX6_findPages_111 : decode cX6_findPages 111 = .ok (.iload_n 2, 1) := by decide +kernel
theorem dX6_findPages_112 : decode cX6_findPages 112 = .ok (.iload_n 3, 1) := by decide +kernel
theorem dX6_findPages_113 : decode cX6_findPages 113 = .ok (.iadd, 1) := by decide +kernel
theorem dX6_findPages_114 : decode cX6_findPages 114 = .ok (.iaload, 1) := by decide +kernel
theorem dX6_findPages_115 : decode cX6_findPages 115 = .ok (.iconst 1, 1) := by decide +kernel
theorem dX6_findPages_116 : decode cX6_findPages 116 = .ok (.iadd, 1) := by decide +kernel
theorem dX6_findPages_117 : decode cX6_findPages 117 = .ok (.istore 5, 2) := by decide +kernel
theorem dX6_findPages_119 : decode cX6_findPages 119 = .ok (.aload_n 0, 1) := by decide +kernel
theorem dX6_findPages_120 : decode cX6_findPages 120 = .ok (.getfield 59, 3) := by decide +kernel
theorem dX6_findPages_123 : decode cX6_findPages 123 = .ok (.iload_n 2, 1) := by decide +kernel
theorem dX6_findPages_124 : decode cX6_findPages 124 = .ok (.iaload, 1) := by decide +kernel
theorem dX6_findPages_125 : decode cX6_findPages 125 = .ok (.ifCond .le 39, 3) := by decide +kernel
theorem dX6_findPages_128 : decode cX6_findPages 128 = .ok (.iload 4, 2) := by decide +kernel
theorem dX6_findPages_130 : decode cX6_findPages 130 = .ok (.aload_n 0, 1) := by decide +kernel
theorem dX6_findPages_131 : decode cX6_findPages 131 = .ok (.getfield 53, 3) := by decide +kernel
theorem dX6_findPages_134 : decode cX6_findPages 134 = .ok (.iload_n 2, 1) := by decide +kernel
theorem dX6_findPages_135 : decode cX6_findPages 135 = .ok (.iaload, 1) := by decide +kernel
theorem dX6_findPages_136 : decode cX6_findPages 136 = .ok (.if_icmp .gt 51, 3) := by decide +kernel
theorem dX6_findPages_139 : decode cX6_findPages 139 = .ok (.iload 4, 2) := by decide +kernel
theorem dX6_findPages_141 : decode cX6_findPages 141 = .ok (.aload_n 0, 1) := by decide +kernel
theorem dX6_findPages_142 : decode cX6_findPages 142 = .ok (.getfield 53, 3) := by decide +kernel
theorem dX6_findPages_145 : decode cX6_findPages 145 = .ok (.iload_n 2, 1) := by decide +kernel
theorem dX6_findPages_146 : decode cX6_findPages 146 = .ok (.iaload, 1) := by decide +kernel
theorem dX6_findPages_147 : decode cX6_findPages 147 = .ok (.if_icmp .ne 17, 3) := by decide +kernel
theorem dX6_findPages_150 : decode cX6_findPages 150 = .ok (.iload 5, 2) := by decide +kernel
theorem dX6_findPages_152 : decode cX6_findPages 152 = .ok (.aload_n 0, 1) := by decide +kernel
theorem dX6_findPages_153 : decode cX6_findPages 153 = .ok (.getfield 56, 3) := by decide +kernel
theorem dX6_findPages_156 : decode cX6_findPages 156 = .ok (.iload_n 2, 1) := by decide +kernel
theorem dX6_findPages_157 : decode cX6_findPages 157 = .ok (.iaload, 1) := by decide +kernel
theorem dX6_findPages_158 : decode cX6_findPages 158 = .ok (.if_icmp .lt 6, 3) := by decide +kernel
theorem dX6_findPages_161 : decode cX6_findPages 161 = .ok (.goto 26, 3) := by decide +kernel
theorem dX6_findPages_164 : decode cX6_findPages 164 = .ok (.aload_n 0, 1) := by decide +kernel
theorem dX6_findPages_165 : decode cX6_findPages 165 = .ok (.getfield 59, 3) := by decide +kernel
theorem dX6_findPages_168 : decode cX6_findPages 168 = .ok (.iload_n 2, 1) := by decide +kernel
theorem dX6_findPages_169 : decode cX6_findPages 169 = .ok (.iload_n 3, 1) := by decide +kernel
theorem dX6_findPages_170 : decode cX6_findPages 170 = .ok (.iastore, 1) := by decide +kernel
theorem dX6_findPages_171 : decode cX6_findPages 171 = .ok (.aload_n 0, 1) := by decide +kernel
theorem dX6_findPages_172 : decode cX6_findPages 172 = .ok (.getfield 53, 3) := by decide +kernel
theorem dX6_findPages_175 : decode cX6_findPages 175 = .ok (.iload_n 2, 1) := by decide +kernel
theorem dX6_findPages_176 : decode cX6_findPages 176 = .ok (.iload 4, 2) := by decide +kernel
theorem dX6_findPages_178 : decode cX6_findPages 178 = .ok (.iastore, 1) := by decide +kernel
theorem dX6_findPages_179 : decode cX6_findPages 179 = .ok (.aload_n 0, 1) := by decide +kernel
theorem dX6_findPages_180 : decode cX6_findPages 180 = .ok (.getfield 56, 3) := by decide +kernel
theorem dX6_findPages_183 : decode cX6_findPages 183 = .ok (.iload_n 2, 1) := by decide +kernel
theorem dX6_findPages_184 : decode cX6_findPages 184 = .ok (.iload 5, 2) := by decide +kernel
theorem dX6_findPages_186 : decode cX6_findPages 186 = .ok (.iastore, 1) := by decide +kernel
theorem dX6_findPages_187 : decode cX6_findPages 187 = .ok (.iinc 3 1, 3) := by decide +kernel
theorem dX6_findPages_190 : decode cX6_findPages 190 = .ok (.goto (-146), 3) := by decide +kernel
theorem dX6_findPages_193 : decode cX6_findPages 193 = .ok (.iinc 2 (-1), 3) := by decide +kernel
theorem dX6_findPages_196 : decode cX6_findPages 196 = .ok (.goto (-165), 3) := by decide +kernel
theorem dX6_findPages_199 : decode cX6_findPages 199 = .ok (.return_, 1) := by decide +kernel
theorem dX6_pages_0 : decode cX6_pages 0 = .ok (.aload_n 0, 1) := by decide +kernel
theorem dX6_pages_1 : decode cX6_pages 1 = .ok (.iload_n 1, 1) := by decide +kernel
theorem dX6_pages_2 : decode cX6_pages 2 = .ok (.invokevirtual 96, 3) := by decide +kernel
theorem dX6_pages_5 : decode cX6_pages 5 = .ok (.ifCond .eq 12, 3) := by decide +kernel
theorem dX6_pages_8 : decode cX6_pages 8 = .ok (.iload_n 2, 1) := by decide +kernel
theorem dX6_pages_9 : decode cX6_pages 9 = .ok (.iconst 0, 1) := by decide +kernel
theorem dX6_pages_10 : decode cX6_pages 10 = .ok (.iconst 1, 1) := by decide +kernel
theorem dX6_pages_11 : decode cX6_pages 11 = .ok (.invokestatic 85, 3) := by decide +kernel
theorem dX6_pages_14 : decode cX6_pages 14 = .ok (.ifCond .ne 9, 3) := by decide +kernel
theorem dX6_pages_17 : decode cX6_pages 17 = .ok (.aload_n 0, 1) := by decide +kernel
theorem dX6_pages_18 : decode cX6_pages 18 = .ok (.iconst 1, 1) := by decide +kernel
theorem dX6_pages_19 : decode cX6_pages 19 = .ok (.invokevirtual 92, 3) := by decide +kernel
theorem dX6_pages_22 : decode cX6_pages 22 = .ok (.ireturn, 1) := by decide +kernel
theorem dX6_pages_23 : decode cX6_pages 23 = .ok (.aload_n 0, 1) := by decide +kernel
theorem dX6_pages_24 : decode cX6_pages 24 = .ok (.iload_n 1, 1) := by decide +kernel
theorem dX6_pages_25 : decode cX6_pages 25 = .ok (.invokevirtual 143, 3) := by decide +kernel
theorem dX6_pages_28 : decode cX6_pages 28 = .ok (.aload_n 0, 1) := by decide +kernel
theorem dX6_pages_29 : decode cX6_pages 29 = .ok (.getfield 106, 3) := by decide +kernel
theorem dX6_pages_32 : decode cX6_pages 32 = .ok (.ifCond .ne 9, 3) := by decide +kernel
theorem dX6_pages_35 : decode cX6_pages 35 = .ok (.aload_n 0, 1) := by decide +kernel
theorem dX6_pages_36 : decode cX6_pages 36 = .ok (.iconst 2, 1) := by decide +kernel
theorem dX6_pages_37 : decode cX6_pages 37 = .ok (.invokevirtual 92, 3) := by decide +kernel
theorem dX6_pages_40 : decode cX6_pages 40 = .ok (.ireturn, 1) := by decide +kernel
theorem dX6_pages_41 : decode cX6_pages 41 = .ok (.iload_n 2, 1) := by decide +kernel
theorem dX6_pages_42 : decode cX6_pages 42 = .ok (.ifCond .ne 12, 3) := by decide +kernel
theorem dX6_pages_45 : decode cX6_pages 45 = .ok (.aload_n 0, 1) := by decide +kernel
theorem dX6_pages_46 : decode cX6_pages 46 = .ok (.getfield 56, 3) := by decide +kernel
theorem dX6_pages_49 : decode cX6_pages 49 = .ok (.iconst 0, 1) := by decide +kernel
theorem dX6_pages_50 : decode cX6_pages 50 = .ok (.iaload, 1) := by decide +kernel
theorem dX6_pages_51 : decode cX6_pages 51 = .ok (.goto 9, 3) := by decide +kernel
theorem dX6_pages_54 : decode cX6_pages 54 = .ok (.aload_n 0, 1) := by decide +kernel
theorem dX6_pages_55 : decode cX6_pages 55 = .ok (.getfield 53, 3) := by decide +kernel
theorem dX6_pages_58 : decode cX6_pages 58 = .ok (.iconst 0, 1) := by decide +kernel
theorem dX6_pages_59 : decode cX6_pages 59 = .ok (.iaload, 1) := by decide +kernel
theorem dX6_pages_60 : decode cX6_pages 60 = .ok (.ireturn, 1) := by decide +kernel
theorem dX6_pageAt_0 : decode cX6_pageAt 0 = .ok (.aload_n 0, 1) := by decide +kernel
theorem dX6_pageAt_1 : decode cX6_pageAt 1 = .ok (.iload_n 1, 1) := by decide +kernel
theorem dX6_pageAt_2 : decode cX6_pageAt 2 = .ok (.invokevirtual 143, 3) := by decide +kernel
theorem dX6_pageAt_5 : decode cX6_pageAt 5 = .ok (.iconst 0, 1) := by decide +kernel
theorem dX6_pageAt_6 : decode cX6_pageAt 6 = .ok (.istore_n 3, 1) := by decide +kernel
theorem dX6_pageAt_7 : decode cX6_pageAt 7 = .ok (.iconst 0, 1) := by decide +kernel
theorem dX6_pageAt_8 : decode cX6_pageAt 8 = .ok (.istore 4, 2) := by decide +kernel
theorem dX6_pageAt_10 : decode cX6_pageAt 10 = .ok (.iload 4, 2) := by decide +kernel
theorem dX6_pageAt_12 : decode cX6_pageAt 12 = .ok (.iload_n 2, 1) := by decide +kernel
theorem dX6_pageAt_13 : decode cX6_pageAt 13 = .ok (.if_icmp .ge 26, 3) := by decide +kernel
theorem dX6_pageAt_16 : decode cX6_pageAt 16 = .ok (.iload_n 3, 1) := by decide +kernel
theorem dX6_pageAt_17 : decode cX6_pageAt 17 = .ok (.aload_n 0, 1) := by decide +kernel
theorem dX6_pageAt_18 : decode cX6_pageAt 18 = .ok (.getfield 106, 3) := by decide +kernel
theorem dX6_pageAt_21 : decode cX6_pageAt 21 = .ok (.if_icmp .ge 18, 3) := by decide +kernel
theorem dX6_pageAt_24 : decode cX6_pageAt 24 = .ok (.iload_n 3, 1) := by decide +kernel
theorem dX6_pageAt_25 : decode cX6_pageAt 25 = .ok (.aload_n 0, 1) := by decide +kernel
theorem dX6_pageAt_26 : decode cX6_pageAt 26 = .ok (.getfield 59, 3) := by decide +kernel
theorem dX6_pageAt_29 : decode cX6_pageAt 29 = .ok (.iload_n 3, 1) := by decide +kernel
theorem dX6_pageAt_30 : decode cX6_pageAt 30 = .ok (.iaload, 1) := by decide +kernel
theorem dX6_pageAt_31 : decode cX6_pageAt 31 = .ok (.iadd, 1) := by decide +kernel
theorem dX6_pageAt_32 : decode cX6_pageAt 32 = .ok (.istore_n 3, 1) := by decide +kernel
theorem dX6_pageAt_33 : decode cX6_pageAt 33 = .ok (.iinc 4 1, 3) := by decide +kernel
theorem dX6_pageAt_36 : decode cX6_pageAt 36 = .ok (.goto (-26), 3) := by decide +kernel
theorem dX6_pageAt_39 : decode cX6_pageAt 39 = .ok (.iload_n 3, 1) := by decide +kernel
theorem dX6_pageAt_40 : decode cX6_pageAt 40 = .ok (.aload_n 0, 1) := by decide +kernel
theorem dX6_pageAt_41 : decode cX6_pageAt 41 = .ok (.getfield 106, 3) := by decide +kernel
theorem dX6_pageAt_44 : decode cX6_pageAt 44 = .ok (.if_icmp .ge 7, 3) := by decide +kernel
theorem dX6_pageAt_47 : decode cX6_pageAt 47 = .ok (.iload_n 3, 1) := by decide +kernel
theorem dX6_pageAt_48 : decode cX6_pageAt 48 = .ok (.goto 4, 3) := by decide +kernel
theorem dX6_pageAt_51 : decode cX6_pageAt 51 = .ok (.iconst (-1), 1) := by decide +kernel
theorem dX6_pageAt_52 : decode cX6_pageAt 52 = .ok (.ireturn, 1) := by decide +kernel
theorem dX6_page_0 : decode cX6_page 0 = .ok (.aload_n 0, 1) := by decide +kernel
theorem dX6_page_1 : decode cX6_page 1 = .ok (.iload_n 1, 1) := by decide +kernel
theorem dX6_page_2 : decode cX6_page 2 = .ok (.invokevirtual 96, 3) := by decide +kernel
theorem dX6_page_5 : decode cX6_page 5 = .ok (.ifCond .eq 7, 3) := by decide +kernel
theorem dX6_page_8 : decode cX6_page 8 = .ok (.iload_n 2, 1) := by decide +kernel
theorem dX6_page_9 : decode cX6_page 9 = .ok (.ifCond .ge 9, 3) := by decide +kernel
theorem dX6_page_12 : decode cX6_page 12 = .ok (.aload_n 0, 1) := by decide +kernel
theorem dX6_page_13 : decode cX6_page 13 = .ok (.iconst 1, 1) := by decide +kernel
theorem dX6_page_14 : decode cX6_page 14 = .ok (.invokevirtual 92, 3) := by decide +kernel
theorem dX6_page_17 : decode cX6_page 17 = .ok (.ireturn, 1) := by decide +kernel
theorem dX6_page_18 : decode cX6_page 18 = .ok (.aload_n 0, 1) := by decide +kernel
theorem dX6_page_19 : decode cX6_page 19 = .ok (.iload_n 1, 1) := by decide +kernel
theorem dX6_page_20 : decode cX6_page 20 = .ok (.iload_n 2, 1) := by decide +kernel
theorem dX6_page_21 : decode cX6_page 21 = .ok (.invokevirtual 147, 3) := by decide +kernel
theorem dX6_page_24 : decode cX6_page 24 = .ok (.istore_n 3, 1) := by decide +kernel
theorem dX6_page_25 : decode cX6_page 25 = .ok (.iload_n 3, 1) := by decide +kernel
theorem dX6_page_26 : decode cX6_page 26 = .ok (.ifCond .ge 11, 3) := by decide +kernel
theorem dX6_page_29 : decode cX6_page 29 = .ok (.aload_n 0, 1) := by decide +kernel
theorem dX6_page_30 : decode cX6_page 30 = .ok (.iconst 2, 1) := by decide +kernel
theorem dX6_page_31 : decode cX6_page 31 = .ok (.invokevirtual 92, 3) := by decide +kernel
theorem dX6_page_34 : decode cX6_page 34 = .ok (.goto 9, 3) := by decide +kernel
theorem dX6_page_37 : decode cX6_page 37 = .ok (.aload_n 0, 1) := by decide +kernel
theorem dX6_page_38 : decode cX6_page 38 = .ok (.getfield 50, 3) := by decide +kernel
theorem dX6_page_41 : decode cX6_page 41 = .ok (.iload_n 3, 1) := by decide +kernel
theorem dX6_page_42 : decode cX6_page 42 = .ok (.iaload, 1) := by decide +kernel
theorem dX6_page_43 : decode cX6_page 43 = .ok (.ireturn, 1) := by decide +kernel
theorem dX6_free_0 : decode cX6_free 0 = .ok (.aload_n 0, 1) := by decide +kernel
theorem dX6_free_1 : decode cX6_free 1 = .ok (.iload_n 1, 1) := by decide +kernel
theorem dX6_free_2 : decode cX6_free 2 = .ok (.invokevirtual 96, 3) := by decide +kernel
theorem dX6_free_5 : decode cX6_free 5 = .ok (.ifCond .eq 7, 3) := by decide +kernel
theorem dX6_free_8 : decode cX6_free 8 = .ok (.iload_n 2, 1) := by decide +kernel
theorem dX6_free_9 : decode cX6_free 9 = .ok (.ifCond .ge 9, 3) := by decide +kernel
theorem dX6_free_12 : decode cX6_free 12 = .ok (.aload_n 0, 1) := by decide +kernel
theorem dX6_free_13 : decode cX6_free 13 = .ok (.iconst 1, 1) := by decide +kernel
theorem dX6_free_14 : decode cX6_free 14 = .ok (.invokevirtual 92, 3) := by decide +kernel
theorem dX6_free_17 : decode cX6_free 17 = .ok (.ireturn, 1) := by decide +kernel
theorem dX6_free_18 : decode cX6_free 18 = .ok (.aload_n 0, 1) := by decide +kernel
theorem dX6_free_19 : decode cX6_free 19 = .ok (.iload_n 1, 1) := by decide +kernel
theorem dX6_free_20 : decode cX6_free 20 = .ok (.iload_n 2, 1) := by decide +kernel
theorem dX6_free_21 : decode cX6_free 21 = .ok (.invokevirtual 147, 3) := by decide +kernel
theorem dX6_free_24 : decode cX6_free 24 = .ok (.istore_n 3, 1) := by decide +kernel
theorem dX6_free_25 : decode cX6_free 25 = .ok (.iload_n 3, 1) := by decide +kernel
theorem dX6_free_26 : decode cX6_free 26 = .ok (.ifCond .lt 18, 3) := by decide +kernel
theorem dX6_free_29 : decode cX6_free 29 = .ok (.iload_n 3, 1) := by decide +kernel
theorem dX6_free_30 : decode cX6_free 30 = .ok (.aload_n 0, 1) := by decide +kernel
theorem dX6_free_31 : decode cX6_free 31 = .ok (.getfield 59, 3) := by decide +kernel
theorem dX6_free_34 : decode cX6_free 34 = .ok (.iload_n 3, 1) := by decide +kernel
theorem dX6_free_35 : decode cX6_free 35 = .ok (.iaload, 1) := by decide +kernel
theorem dX6_free_36 : decode cX6_free 36 = .ok (.iadd, 1) := by decide +kernel
theorem dX6_free_37 : decode cX6_free 37 = .ok (.aload_n 0, 1) := by decide +kernel
theorem dX6_free_38 : decode cX6_free 38 = .ok (.getfield 106, 3) := by decide +kernel
theorem dX6_free_41 : decode cX6_free 41 = .ok (.if_icmp .ne 11, 3) := by decide +kernel
theorem dX6_free_44 : decode cX6_free 44 = .ok (.aload_n 0, 1) := by decide +kernel
theorem dX6_free_45 : decode cX6_free 45 = .ok (.iconst 2, 1) := by decide +kernel
theorem dX6_free_46 : decode cX6_free 46 = .ok (.invokevirtual 92, 3) := by decide +kernel
theorem dX6_free_49 : decode cX6_free 49 = .ok (.goto 16, 3) := by decide +kernel
theorem dX6_free_52 : decode cX6_free 52 = .ok (.aload_n 0, 1) := by decide +kernel
theorem dX6_free_53 : decode cX6_free 53 = .ok (.iload_n 1, 1) := by decide +kernel
theorem dX6_free_54 : decode cX6_free 54 = .ok (.iload_n 3, 1) := by decide +kernel
theorem dX6_free_55 : decode cX6_free 55 = .ok (.aload_n 0, 1) := by decide +kernel
theorem dX6_free_56 : decode cX6_free 56 = .ok (.getfield 59, 3) := by decide +kernel
theorem dX6_free_59 : decode cX6_free 59 = .ok (.iload_n 3, 1) := by decide +kernel
theorem dX6_free_60 : decode cX6_free 60 = .ok (.iaload, 1) := by decide +kernel
theorem dX6_free_61 : decode cX6_free 61 = .ok (.iadd, 1) := by decide +kernel
theorem dX6_free_62 : decode cX6_free 62 = .ok (.invokevirtual 133, 3) := by decide +kernel
theorem dX6_free_65 : decode cX6_free 65 = .ok (.ireturn, 1) := by decide +kernel
theorem dX6_systems_0 : decode cX6_systems 0 = .ok (.aload_n 0, 1) := by decide +kernel
theorem dX6_systems_1 : decode cX6_systems 1 = .ok (.iload_n 1, 1) := by decide +kernel
theorem dX6_systems_2 : decode cX6_systems 2 = .ok (.invokevirtual 96, 3) := by decide +kernel
theorem dX6_systems_5 : decode cX6_systems 5 = .ok (.ifCond .eq 7, 3) := by decide +kernel
theorem dX6_systems_8 : decode cX6_systems 8 = .ok (.iload_n 2, 1) := by decide +kernel
theorem dX6_systems_9 : decode cX6_systems 9 = .ok (.ifCond .ge 9, 3) := by decide +kernel
theorem dX6_systems_12 : decode cX6_systems 12 = .ok (.aload_n 0, 1) := by decide +kernel
theorem dX6_systems_13 : decode cX6_systems 13 = .ok (.iconst 1, 1) := by decide +kernel
theorem dX6_systems_14 : decode cX6_systems 14 = .ok (.invokevirtual 92, 3) := by decide +kernel
theorem dX6_systems_17 : decode cX6_systems 17 = .ok (.ireturn, 1) := by decide +kernel
theorem dX6_systems_18 : decode cX6_systems 18 = .ok (.aload_n 0, 1) := by decide +kernel
theorem dX6_systems_19 : decode cX6_systems 19 = .ok (.iload_n 1, 1) := by decide +kernel
theorem dX6_systems_20 : decode cX6_systems 20 = .ok (.iload_n 2, 1) := by decide +kernel
theorem dX6_systems_21 : decode cX6_systems 21 = .ok (.invokevirtual 147, 3) := by decide +kernel
theorem dX6_systems_24 : decode cX6_systems 24 = .ok (.istore_n 3, 1) := by decide +kernel
theorem dX6_systems_25 : decode cX6_systems 25 = .ok (.iload_n 3, 1) := by decide +kernel
theorem dX6_systems_26 : decode cX6_systems 26 = .ok (.ifCond .ge 11, 3) := by decide +kernel
theorem dX6_systems_29 : decode cX6_systems 29 = .ok (.aload_n 0, 1) := by decide +kernel
theorem dX6_systems_30 : decode cX6_systems 30 = .ok (.iconst 2, 1) := by decide +kernel
theorem dX6_systems_31 : decode cX6_systems 31 = .ok (.invokevirtual 92, 3) := by decide +kernel
theorem dX6_systems_34 : decode cX6_systems 34 = .ok (.goto 17, 3) := by decide +kernel
theorem dX6_systems_37 : decode cX6_systems 37 = .ok (.aload_n 0, 1) := by decide +kernel
theorem dX6_systems_38 : decode cX6_systems 38 = .ok (.iload_n 1, 1) := by decide +kernel
theorem dX6_systems_39 : decode cX6_systems 39 = .ok (.iload_n 3, 1) := by decide +kernel
theorem dX6_systems_40 : decode cX6_systems 40 = .ok (.iload_n 3, 1) := by decide +kernel
theorem dX6_systems_41 : decode cX6_systems 41 = .ok (.aload_n 0, 1) := by decide +kernel
theorem dX6_systems_42 : decode cX6_systems 42 = .ok (.getfield 59, 3) := by decide +kernel
theorem dX6_systems_45 : decode cX6_systems 45 = .ok (.iload_n 3, 1) := by decide +kernel
theorem dX6_systems_46 : decode cX6_systems 46 = .ok (.iaload, 1) := by decide +kernel
theorem dX6_systems_47 : decode cX6_systems 47 = .ok (.iadd, 1) := by decide +kernel
theorem dX6_systems_48 : decode cX6_systems 48 = .ok (.invokevirtual 136, 3) := by decide +kernel
theorem dX6_systems_51 : decode cX6_systems 51 = .ok (.ireturn, 1) := by decide +kernel
theorem dX6_lay_0 : decode cX6_lay 0 = .ok (.aload_n 0, 1) := by decide +kernel
theorem dX6_lay_1 : decode cX6_lay 1 = .ok (.iload_n 1, 1) := by decide +kernel
theorem dX6_lay_2 : decode cX6_lay 2 = .ok (.invokevirtual 96, 3) := by decide +kernel
theorem dX6_lay_5 : decode cX6_lay 5 = .ok (.ifCond .ne 9, 3) := by decide +kernel
theorem dX6_lay_8 : decode cX6_lay 8 = .ok (.aload_n 0, 1) := by decide +kernel
theorem dX6_lay_9 : decode cX6_lay 9 = .ok (.iconst 1, 1) := by decide +kernel
theorem dX6_lay_10 : decode cX6_lay 10 = .ok (.invokevirtual 92, 3) := by decide +kernel
theorem dX6_lay_13 : decode cX6_lay 13 = .ok (.ireturn, 1) := by decide +kernel
theorem dX6_lay_14 : decode cX6_lay 14 = .ok (.aload_n 0, 1) := by decide +kernel
theorem dX6_lay_15 : decode cX6_lay 15 = .ok (.iload_n 1, 1) := by decide +kernel
theorem dX6_lay_16 : decode cX6_lay 16 = .ok (.invokevirtual 143, 3) := by decide +kernel
theorem dX6_lay_19 : decode cX6_lay 19 = .ok (.aload_n 0, 1) := by decide +kernel
theorem dX6_lay_20 : decode cX6_lay 20 = .ok (.getfield 106, 3) := by decide +kernel
theorem dX6_lay_23 : decode cX6_lay 23 = .ok (.ifCond .ne 9, 3) := by decide +kernel
theorem dX6_lay_26 : decode cX6_lay 26 = .ok (.aload_n 0, 1) := by decide +kernel
theorem dX6_lay_27 : decode cX6_lay 27 = .ok (.iconst 2, 1) := by decide +kernel
theorem dX6_lay_28 : decode cX6_lay 28 = .ok (.invokevirtual 92, 3) := by decide +kernel
theorem dX6_lay_31 : decode cX6_lay 31 = .ok (.ireturn, 1) := by decide +kernel
theorem dX6_lay_32 : decode cX6_lay 32 = .ok (.iconst 0, 1) := by decide +kernel
theorem dX6_lay_33 : decode cX6_lay 33 = .ok (.istore_n 2, 1) := by decide +kernel
theorem dX6_lay_34 : decode cX6_lay 34 = .ok (.iload_n 2, 1) := by decide +kernel
theorem dX6_lay_35 : decode cX6_lay 35 = .ok (.bipush 40, 2) := by decide +kernel
theorem dX6_lay_37 : decode cX6_lay 37 = .ok (.if_icmp .ge 21, 3) := by decide +kernel
theorem dX6_lay_40 : decode cX6_lay 40 = .ok (.aload_n 0, 1) := by decide +kernel
theorem dX6_lay_41 : decode cX6_lay 41 = .ok (.getfield 65, 3) := by decide +kernel
theorem dX6_lay_44 : decode cX6_lay 44 = .ok (.bipush 40, 2) := by decide +kernel
theorem dX6_lay_46 : decode cX6_lay 46 = .ok (.iload_n 1, 1) := by decide +kernel
theorem dX6_lay_47 : decode cX6_lay 47 = .ok (.imul, 1) := by decide +kernel
theorem dX6_lay_48 : decode cX6_lay 48 = .ok (.iload_n 2, 1) := by decide +kernel
theorem dX6_lay_49 : decode cX6_lay 49 = .ok (.iadd, 1) := by decide +kernel
theorem dX6_lay_50 : decode cX6_lay 50 = .ok (.iconst (-1), 1) := by decide +kernel
theorem dX6_lay_51 : decode cX6_lay 51 = .ok (.iastore, 1) := by decide +kernel
theorem dX6_lay_52 : decode cX6_lay 52 = .ok (.iinc 2 1, 3) := by decide +kernel
theorem dX6_lay_55 : decode cX6_lay 55 = .ok (.goto (-21), 3) := by decide +kernel
theorem dX6_lay_58 : decode cX6_lay 58 = .ok (.iconst 0, 1) := by decide +kernel
theorem dX6_lay_59 : decode cX6_lay 59 = .ok (.istore_n 2, 1) := by decide +kernel
theorem dX6_lay_60 : decode cX6_lay 60 = .ok (.iconst 0, 1) := by decide +kernel
theorem dX6_lay_61 : decode cX6_lay 61 = .ok (.istore_n 3, 1) := by decide +kernel
theorem dX6_lay_62 : decode cX6_lay 62 = .ok (.iload_n 3, 1) := by decide +kernel
theorem dX6_lay_63 : decode cX6_lay 63 = .ok (.aload_n 0, 1) := by decide +kernel
theorem dX6_lay_64 : decode cX6_lay 64 = .ok (.getfield 106, 3) := by decide +kernel
theorem dX6_lay_67 : decode cX6_lay 67 = .ok (.if_icmp .ge 98, 3) := by decide +kernel
theorem dX6_lay_70 : decode cX6_lay 70 = .ok (.iload_n 3, 1) := by decide +kernel
theorem dX6_lay_71 : decode cX6_lay 71 = .ok (.aload_n 0, 1) := by decide +kernel
theorem dX6_lay_72 : decode cX6_lay 72 = .ok (.getfield 59, 3) := by decide +kernel
theorem dX6_lay_75 : decode cX6_lay 75 = .ok (.iload_n 3, 1) := by decide +kernel
theorem dX6_lay_76 : decode cX6_lay 76 = .ok (.iaload, 1) := by decide +kernel
theorem dX6_lay_77 : decode cX6_lay 77 = .ok (.iadd, 1) := by decide +kernel
theorem dX6_lay_78 : decode cX6_lay 78 = .ok (.istore 4, 2) := by decide +kernel
theorem dX6_lay_80 : decode cX6_lay 80 = .ok (.iload_n 3, 1) := by decide +kernel
theorem dX6_lay_81 : decode cX6_lay 81 = .ok (.iload 4, 2) := by decide +kernel
theorem dX6_lay_83 : decode cX6_lay 83 = .ok (.if_icmp .ge 76, 3) := by decide +kernel
theorem dX6_lay_86 : decode cX6_lay 86 = .ok (.bipush 40, 2) := by decide +kernel
theorem dX6_lay_88 : decode cX6_lay 88 = .ok (.iload_n 1, 1) := by decide +kernel
theorem dX6_lay_89 : decode cX6_lay 89 = .ok (.imul, 1) := by decide +kernel
theorem dX6_lay_90 : decode cX6_lay 90 = .ok (.aload_n 0, 1) := by decide +kernel
theorem dX6_lay_91 : decode cX6_lay 91 = .ok (.getfield 50, 3) := by decide +kernel
theorem dX6_lay_94 : decode cX6_lay 94 = .ok (.iload_n 3, 1) := by decide +kernel
theorem dX6_lay_95 : decode cX6_lay 95 = .ok (.iaload, 1) := by decide +kernel
theorem dX6_lay_96 : decode cX6_lay 96 = .ok (.iadd, 1) := by decide +kernel
theorem dX6_lay_97 : decode cX6_lay 97 = .ok (.istore 5, 2) := by decide +kernel
theorem dX6_lay_99 : decode cX6_lay 99 = .ok (.aload_n 0, 1) := by decide +kernel
theorem dX6_lay_100 : decode cX6_lay 100 = .ok (.getfield 65, 3) := by decide +kernel
theorem dX6_lay_103 : decode cX6_lay 103 = .ok (.iload 5, 2) := by decide +kernel
theorem dX6_lay_105 : decode cX6_lay 105 = .ok (.iload_n 2, 1) := by decide +kernel
theorem dX6_lay_106 : decode cX6_lay 106 = .ok (.iastore, 1) := by decide +kernel
theorem dX6_lay_107 : decode cX6_lay 107 = .ok (.aload_n 0, 1) := by decide +kernel
theorem dX6_lay_108 : decode cX6_lay 108 = .ok (.getfield 68, 3) := by decide +kernel
theorem dX6_lay_111 : decode cX6_lay 111 = .ok (.iload 5, 2) := by decide +kernel
theorem dX6_lay_113 : decode cX6_lay 113 = .ok (.aload_n 0, 1) := by decide +kernel
theorem dX6_lay_114 : decode cX6_lay 114 = .ok (.getfield 38, 3) := by decide +kernel
theorem dX6_lay_117 : decode cX6_lay 117 = .ok (.iload 5, 2) := by decide +kernel
theorem dX6_lay_119 : decode cX6_lay 119 = .ok (.iaload, 1) := by decide +kernel
theorem dX6_lay_120 : decode cX6_lay 120 = .ok (.iastore, 1) := by decide +kernel
theorem dX6_lay_121 : decode cX6_lay 121 = .ok (.aload_n 0, 1) := by decide +kernel
theorem dX6_lay_122 : decode cX6_lay 122 = .ok (.getfield 71, 3) := by decide +kernel
theorem dX6_lay_125 : decode cX6_lay 125 = .ok (.iload 5, 2) := by decide +kernel
theorem dX6_lay_127 : decode cX6_lay 127 = .ok (.aload_n 0, 1) := by decide +kernel
theorem dX6_lay_128 : decode cX6_lay 128 = .ok (.getfield 41, 3) := by decide +kernel
theorem dX6_lay_131 : decode cX6_lay 131 = .ok (.iload 5, 2) := by decide +kernel
theorem dX6_lay_133 : decode cX6_lay 133 = .ok (.iaload, 1) := by decide +kernel
theorem dX6_lay_134 : decode cX6_lay 134 = .ok (.iastore, 1) := by decide +kernel
theorem dX6_lay_135 : decode cX6_lay 135 = .ok (.aload_n 0, 1) := by decide +kernel
theorem dX6_lay_136 : decode cX6_lay 136 = .ok (.getfield 74, 3) := by decide +kernel
theorem dX6_lay_139 : decode cX6_lay 139 = .ok (.iload 5, 2) := by decide +kernel
theorem dX6_lay_141 : decode cX6_lay 141 = .ok (.aload_n 0, 1) := by decide +kernel
theorem dX6_lay_142 : decode cX6_lay 142 = .ok (.getfield 26, 3) := by decide +kernel
theorem dX6_lay_145 : decode cX6_lay 145 = .ok (.aload_n 0, 1) := by decide +kernel
theorem dX6_lay_146 : decode cX6_lay 146 = .ok (.getfield 50, 3) := by decide +kernel
theorem dX6_lay_149 : decode cX6_lay 149 = .ok (.iload_n 3, 1) := by decide +kernel
theorem dX6_lay_150 : decode cX6_lay 150 = .ok (.iaload, 1) := by decide +kernel
theorem dX6_lay_151 : decode cX6_lay 151 = .ok (.iaload, 1) := by decide +kernel
theorem dX6_lay_152 : decode cX6_lay 152 = .ok (.iastore, 1) := by decide +kernel
theorem dX6_lay_153 : decode cX6_lay 153 = .ok (.iinc 3 1, 3) := by decide +kernel
theorem dX6_lay_156 : decode cX6_lay 156 = .ok (.goto (-76), 3) := by decide +kernel
theorem dX6_lay_159 : decode cX6_lay 159 = .ok (.iinc 2 1, 3) := by decide +kernel
theorem dX6_lay_162 : decode cX6_lay 162 = .ok (.goto (-100), 3) := by decide +kernel
theorem dX6_lay_165 : decode cX6_lay 165 = .ok (.aload_n 0, 1) := by decide +kernel
theorem dX6_lay_166 : decode cX6_lay 166 = .ok (.getfield 62, 3) := by decide +kernel
theorem dX6_lay_169 : decode cX6_lay 169 = .ok (.iload_n 1, 1) := by decide +kernel
theorem dX6_lay_170 : decode cX6_lay 170 = .ok (.iload_n 2, 1) := by decide +kernel
theorem dX6_lay_171 : decode cX6_lay 171 = .ok (.iastore, 1) := by decide +kernel
theorem dX6_lay_172 : decode cX6_lay 172 = .ok (.iload_n 2, 1) := by decide +kernel
theorem dX6_lay_173 : decode cX6_lay 173 = .ok (.ireturn, 1) := by decide +kernel
theorem dX6_stale_0 : decode cX6_stale 0 = .ok (.aload_n 0, 1) := by decide +kernel
theorem dX6_stale_1 : decode cX6_stale 1 = .ok (.iload_n 1, 1) := by decide +kernel
theorem dX6_stale_2 : decode cX6_stale 2 = .ok (.invokevirtual 96, 3) := by decide +kernel
theorem dX6_stale_5 : decode cX6_stale 5 = .ok (.ifCond .ne 9, 3) := by decide +kernel
theorem dX6_stale_8 : decode cX6_stale 8 = .ok (.aload_n 0, 1) := by decide +kernel
theorem dX6_stale_9 : decode cX6_stale 9 = .ok (.iconst 1, 1) := by decide +kernel
theorem dX6_stale_10 : decode cX6_stale 10 = .ok (.invokevirtual 92, 3) := by decide +kernel
theorem dX6_stale_13 : decode cX6_stale 13 = .ok (.ireturn, 1) := by decide +kernel
theorem dX6_stale_14 : decode cX6_stale 14 = .ok (.aload_n 0, 1) := by decide +kernel
theorem dX6_stale_15 : decode cX6_stale 15 = .ok (.getfield 62, 3) := by decide +kernel
theorem dX6_stale_18 : decode cX6_stale 18 = .ok (.iload_n 1, 1) := by decide +kernel
theorem dX6_stale_19 : decode cX6_stale 19 = .ok (.iaload, 1) := by decide +kernel
theorem dX6_stale_20 : decode cX6_stale 20 = .ok (.ifCond .ne 9, 3) := by decide +kernel
theorem dX6_stale_23 : decode cX6_stale 23 = .ok (.aload_n 0, 1) := by decide +kernel
theorem dX6_stale_24 : decode cX6_stale 24 = .ok (.iconst 2, 1) := by decide +kernel
theorem dX6_stale_25 : decode cX6_stale 25 = .ok (.invokevirtual 92, 3) := by decide +kernel
theorem dX6_stale_28 : decode cX6_stale 28 = .ok (.ireturn, 1) := by decide +kernel
theorem dX6_stale_29 : decode cX6_stale 29 = .ok (.iconst 0, 1) := by decide +kernel
theorem dX6_stale_30 : decode cX6_stale 30 = .ok (.istore_n 2, 1) := by decide +kernel
theorem dX6_stale_31 : decode cX6_stale 31 = .ok (.iload_n 2, 1) := by decide +kernel
theorem dX6_stale_32 : decode cX6_stale 32 = .ok (.bipush 40, 2) := by decide +kernel
theorem dX6_stale_34 : decode cX6_stale 34 = .ok (.if_icmp .ge 16, 3) := by decide +kernel
theorem dX6_stale_37 : decode cX6_stale 37 = .ok (.aload_n 0, 1) := by decide +kernel
theorem dX6_stale_38 : decode cX6_stale 38 = .ok (.getfield 77, 3) := by decide +kernel
theorem dX6_stale_41 : decode cX6_stale 41 = .ok (.iload_n 2, 1) := by decide +kernel
theorem dX6_stale_42 : decode cX6_stale 42 = .ok (.iconst 0, 1) := by decide +kernel
theorem dX6_stale_43 : decode cX6_stale 43 = .ok (.bastore, 1) := by decide +kernel
theorem dX6_stale_44 : decode cX6_stale 44 = .ok (.iinc 2 1, 3) := by decide +kernel
theorem dX6_stale_47 : decode cX6_stale 47 = .ok (.goto (-16), 3) := by decide +kernel
theorem dX6_stale_50 : decode cX6_stale 50 = .ok (.iconst 0, 1) := by decide +kernel
theorem dX6_stale_51 : decode cX6_stale 51 = .ok (.istore_n 2, 1) := by decide +kernel
theorem dX6_stale_52 : decode cX6_stale 52 = .ok (.iconst 0, 1) := by decide +kernel
theorem dX6_stale_53 : decode cX6_stale 53 = .ok (.istore_n 3, 1) := by decide +kernel
theorem dX6_stale_54 : decode cX6_stale 54 = .ok (.iload_n 3, 1) := by decide +kernel
theorem dX6_stale_55 : decode cX6_stale 55 = .ok (.aload_n 0, 1) := by decide +kernel
theorem dX6_stale_56 : decode cX6_stale 56 = .ok (.getfield 82, 3) := by decide +kernel
theorem dX6_stale_59 : decode cX6_stale 59 = .ok (.if_icmp .ge 110, 3) := by decide +kernel
theorem dX6_stale_62 : decode cX6_stale 62 = .ok (.bipush 40, 2) := by decide +kernel
theorem dX6_stale_64 : decode cX6_stale 64 = .ok (.iload_n 1, 1) := by decide +kernel
theorem dX6_stale_65 : decode cX6_stale 65 = .ok (.imul, 1) := by decide +kernel
theorem dX6_stale_66 : decode cX6_stale 66 = .ok (.iload_n 3, 1) := by decide +kernel
theorem dX6_stale_67 : decode cX6_stale 67 = .ok (.iadd, 1) := by decide +kernel
theorem dX6_stale_68 : decode cX6_stale 68 = .ok (.istore 4, 2) := by decide +kernel
theorem dX6_stale_70 : decode cX6_stale 70 = .ok (.aload_n 0, 1) := by decide +kernel
theorem dX6_stale_71 : decode cX6_stale 71 = .ok (.getfield 65, 3) := by decide +kernel
theorem dX6_stale_74 : decode cX6_stale 74 = .ok (.iload 4, 2) := by decide +kernel
theorem dX6_stale_76 : decode cX6_stale 76 = .ok (.iaload, 1) := by decide +kernel
theorem dX6_stale_77 : decode cX6_stale 77 = .ok (.ifCond .lt 71, 3) := by decide +kernel
theorem dX6_stale_80 : decode cX6_stale 80 = .ok (.aload_n 0, 1) := by decide +kernel
theorem dX6_stale_81 : decode cX6_stale 81 = .ok (.getfield 65, 3) := by decide +kernel
theorem dX6_stale_84 : decode cX6_stale 84 = .ok (.iload 4, 2) := by decide +kernel
theorem dX6_stale_86 : decode cX6_stale 86 = .ok (.iaload, 1) := by decide +kernel
theorem dX6_stale_87 : decode cX6_stale 87 = .ok (.istore_n 2, 1) := by decide +kernel
theorem dX6_stale_88 : decode cX6_stale 88 = .ok (.aload_n 0, 1) := by decide +kernel
theorem dX6_stale_89 : decode cX6_stale 89 = .ok (.getfield 68, 3) := by decide +kernel
theorem dX6_stale_92 : decode cX6_stale 92 = .ok (.iload 4, 2) := by decide +kernel
theorem dX6_stale_94 : decode cX6_stale 94 = .ok (.iaload, 1) := by decide +kernel
theorem dX6_stale_95 : decode cX6_stale 95 = .ok (.aload_n 0, 1) := by decide +kernel
theorem dX6_stale_96 : decode cX6_stale 96 = .ok (.getfield 38, 3) := by decide +kernel
theorem dX6_stale_99 : decode cX6_stale 99 = .ok (.iload 4, 2) := by decide +kernel
theorem dX6_stale_101 : decode cX6_stale 101 = .ok (.iaload, 1) := by decide +kernel
theorem dX6_stale_102 : decode cX6_stale 102 = .ok (.if_icmp .ne 36, 3) := by decide +kernel
theorem dX6_stale_105 : decode cX6_stale 105 = .ok (.aload_n 0, 1) := by decide +kernel
theorem dX6_stale_106 : decode cX6_stale 106 = .ok (.getfield 71, 3) := by decide +kernel
theorem dX6_stale_109 : decode cX6_stale 109 = .ok (.iload 4, 2) := by decide +kernel
theorem dX6_stale_111 : decode cX6_stale 111 = .ok (.iaload, 1) := by decide +kernel
theorem dX6_stale_112 : decode cX6_stale 112 = .ok (.aload_n 0, 1) := by decide +kernel
theorem dX6_stale_113 : decode cX6_stale 113 = .ok (.getfield 41, 3) := by decide +kernel
theorem dX6_stale_116 : decode cX6_stale 116 = .ok (.iload 4, 2) := by decide +kernel
theorem dX6_stale_118 : decode cX6_stale 118 = .ok (.iaload, 1) := by decide +kernel
theorem dX6_stale_119 : decode cX6_stale 119 = .ok (.if_icmp .ne 19, 3) := by decide +kernel
theorem dX6_stale_122 : decode cX6_stale 122 = .ok (.aload_n 0, 1) := by decide +kernel
theorem dX6_stale_123 : decode cX6_stale 123 = .ok (.getfield 74, 3) := by decide +kernel
theorem dX6_stale_126 : decode cX6_stale 126 = .ok (.iload 4, 2) := by decide +kernel
theorem dX6_stale_128 : decode cX6_stale 128 = .ok (.iaload, 1) := by decide +kernel
theorem dX6_stale_129 : decode cX6_stale 129 = .ok (.aload_n 0, 1) := by decide +kernel
theorem dX6_stale_130 : decode cX6_stale 130 = .ok (.getfield 26, 3) := by decide +kernel
theorem dX6_stale_133 : decode cX6_stale 133 = .ok (.iload_n 3, 1) := by decide +kernel
theorem dX6_stale_134 : decode cX6_stale 134 = .ok (.iaload, 1) := by decide +kernel
theorem dX6_stale_135 : decode cX6_stale 135 = .ok (.if_icmp .eq 28, 3) := by decide +kernel
theorem dX6_stale_138 : decode cX6_stale 138 = .ok (.aload_n 0, 1) := by decide +kernel
theorem dX6_stale_139 : decode cX6_stale 139 = .ok (.getfield 77, 3) := by decide +kernel
theorem dX6_stale_142 : decode cX6_stale 142 = .ok (.iload_n 2, 1) := by decide +kernel
theorem dX6_stale_143 : decode cX6_stale 143 = .ok (.iconst 1, 1) := by decide +kernel
theorem dX6_stale_144 : decode cX6_stale 144 = .ok (.bastore, 1) := by decide +kernel
theorem dX6_stale_145 : decode cX6_stale 145 = .ok (.goto 18, 3) := by decide +kernel
theorem dX6_stale_148 : decode cX6_stale 148 = .ok (.aload_n 0, 1) := by decide +kernel
theorem dX6_stale_149 : decode cX6_stale 149 = .ok (.iload_n 3, 1) := by decide +kernel
theorem dX6_stale_150 : decode cX6_stale 150 = .ok (.invokevirtual 103, 3) := by decide +kernel
theorem dX6_stale_153 : decode cX6_stale 153 = .ok (.ifCond .ne 10, 3) := by decide +kernel
theorem dX6_stale_156 : decode cX6_stale 156 = .ok (.aload_n 0, 1) := by decide +kernel
theorem dX6_stale_157 : decode cX6_stale 157 = .ok (.getfield 77, 3) := by decide +kernel
theorem dX6_stale_160 : decode cX6_stale 160 = .ok (.iload_n 2, 1) := by decide +kernel
theorem dX6_stale_161 : decode cX6_stale 161 = .ok (.iconst 1, 1) := by decide +kernel
theorem dX6_stale_162 : decode cX6_stale 162 = .ok (.bastore, 1) := by decide +kernel
theorem dX6_stale_163 : decode cX6_stale 163 = .ok (.iinc 3 1, 3) := by decide +kernel
theorem dX6_stale_166 : decode cX6_stale 166 = .ok (.goto (-112), 3) := by decide +kernel
theorem dX6_stale_169 : decode cX6_stale 169 = .ok (.iconst 0, 1) := by decide +kernel
theorem dX6_stale_170 : decode cX6_stale 170 = .ok (.istore_n 3, 1) := by decide +kernel
theorem dX6_stale_171 : decode cX6_stale 171 = .ok (.iconst 0, 1) := by decide +kernel
theorem dX6_stale_172 : decode cX6_stale 172 = .ok (.istore 4, 2) := by decide +kernel
theorem dX6_stale_174 : decode cX6_stale 174 = .ok (.iload 4, 2) := by decide +kernel
theorem dX6_stale_176 : decode cX6_stale 176 = .ok (.aload_n 0, 1) := by decide +kernel
theorem dX6_stale_177 : decode cX6_stale 177 = .ok (.getfield 62, 3) := by decide +kernel
theorem dX6_stale_180 : decode cX6_stale 180 = .ok (.iload_n 1, 1) := by decide +kernel
theorem dX6_stale_181 : decode cX6_stale 181 = .ok (.iaload, 1) := by decide +kernel
theorem dX6_stale_182 : decode cX6_stale 182 = .ok (.if_icmp .ge 27, 3) := by decide +kernel
theorem dX6_stale_185 : decode cX6_stale 185 = .ok (.iload_n 3, 1) := by decide +kernel
theorem dX6_stale_186 : decode cX6_stale 186 = .ok (.aload_n 0, 1) := by decide +kernel
theorem dX6_stale_187 : decode cX6_stale 187 = .ok (.getfield 77, 3) := by decide +kernel
theorem dX6_stale_190 : decode cX6_stale 190 = .ok (.iload 4, 2) := by decide +kernel
theorem dX6_stale_192 : decode cX6_stale 192 = .ok (.baload, 1) := by decide +kernel
theorem dX6_stale_193 : decode cX6_stale 193 = .ok (.ifCond .eq 7, 3) := by decide +kernel
theorem dX6_stale_196 : decode cX6_stale 196 = .ok (.iconst 1, 1) := by decide +kernel
theorem dX6_stale_197 : decode cX6_stale 197 = .ok (.goto 4, 3) := by decide +kernel
theorem dX6_stale_200 : decode cX6_stale 200 = .ok (.iconst 0, 1) := by decide +kernel
theorem dX6_stale_201 : decode cX6_stale 201 = .ok (.iadd, 1) := by decide +kernel
theorem dX6_stale_202 : decode cX6_stale 202 = .ok (.istore_n 3, 1) := by decide +kernel
theorem dX6_stale_203 : decode cX6_stale 203 = .ok (.iinc 4 1, 3) := by decide +kernel
theorem dX6_stale_206 : decode cX6_stale 206 = .ok (.goto (-32), 3) := by decide +kernel
theorem dX6_stale_209 : decode cX6_stale 209 = .ok (.iload_n 3, 1) := by decide +kernel
theorem dX6_stale_210 : decode cX6_stale 210 = .ok (.ireturn, 1) := by decide +kernel
theorem dX6_tell_0 : decode cX6_tell 0 = .ok (.aload_n 0, 1) := by decide +kernel
theorem dX6_tell_1 : decode cX6_tell 1 = .ok (.getfield 150, 3) := by decide +kernel
theorem dX6_tell_4 : decode cX6_tell 4 = .ok (.bipush 40, 2) := by decide +kernel
theorem dX6_tell_6 : decode cX6_tell 6 = .ok (.if_icmp .ne 9, 3) := by decide +kernel
theorem dX6_tell_9 : decode cX6_tell 9 = .ok (.aload_n 0, 1) := by decide +kernel
theorem dX6_tell_10 : decode cX6_tell 10 = .ok (.iconst 4, 1) := by decide +kernel
theorem dX6_tell_11 : decode cX6_tell 11 = .ok (.invokevirtual 92, 3) := by decide +kernel
theorem dX6_tell_14 : decode cX6_tell 14 = .ok (.ireturn, 1) := by decide +kernel
theorem dX6_tell_15 : decode cX6_tell 15 = .ok (.aload_n 0, 1) := by decide +kernel
theorem dX6_tell_16 : decode cX6_tell 16 = .ok (.getfield 44, 3) := by decide +kernel
theorem dX6_tell_19 : decode cX6_tell 19 = .ok (.aload_n 0, 1) := by decide +kernel
theorem dX6_tell_20 : decode cX6_tell 20 = .ok (.getfield 150, 3) := by decide +kernel
theorem dX6_tell_23 : decode cX6_tell 23 = .ok (.iload_n 1, 1) := by decide +kernel
theorem dX6_tell_24 : decode cX6_tell 24 = .ok (.iastore, 1) := by decide +kernel
theorem dX6_tell_25 : decode cX6_tell 25 = .ok (.aload_n 0, 1) := by decide +kernel
theorem dX6_tell_26 : decode cX6_tell 26 = .ok (.dup, 1) := by decide +kernel
theorem dX6_tell_27 : decode cX6_tell 27 = .ok (.getfield 150, 3) := by decide +kernel
theorem dX6_tell_30 : decode cX6_tell 30 = .ok (.iconst 1, 1) := by decide +kernel
theorem dX6_tell_31 : decode cX6_tell 31 = .ok (.iadd, 1) := by decide +kernel
theorem dX6_tell_32 : decode cX6_tell 32 = .ok (.putfield 150, 3) := by decide +kernel
theorem dX6_tell_35 : decode cX6_tell 35 = .ok (.aload_n 0, 1) := by decide +kernel
theorem dX6_tell_36 : decode cX6_tell 36 = .ok (.getfield 150, 3) := by decide +kernel
theorem dX6_tell_39 : decode cX6_tell 39 = .ok (.ireturn, 1) := by decide +kernel
theorem dX6_check_0 : decode cX6_check 0 = .ok (.aload_n 0, 1) := by decide +kernel
theorem dX6_check_1 : decode cX6_check 1 = .ok (.getfield 150, 3) := by decide +kernel
theorem dX6_check_4 : decode cX6_check 4 = .ok (.istore_n 2, 1) := by decide +kernel
theorem dX6_check_5 : decode cX6_check 5 = .ok (.aload_n 0, 1) := by decide +kernel
theorem dX6_check_6 : decode cX6_check 6 = .ok (.iconst 0, 1) := by decide +kernel
theorem dX6_check_7 : decode cX6_check 7 = .ok (.putfield 150, 3) := by decide +kernel
theorem dX6_check_10 : decode cX6_check 10 = .ok (.aload_n 0, 1) := by decide +kernel
theorem dX6_check_11 : decode cX6_check 11 = .ok (.iload_n 1, 1) := by decide +kernel
theorem dX6_check_12 : decode cX6_check 12 = .ok (.invokevirtual 96, 3) := by decide +kernel
theorem dX6_check_15 : decode cX6_check 15 = .ok (.ifCond .ne 9, 3) := by decide +kernel
theorem dX6_check_18 : decode cX6_check 18 = .ok (.aload_n 0, 1) := by decide +kernel
theorem dX6_check_19 : decode cX6_check 19 = .ok (.iconst 1, 1) := by decide +kernel
theorem dX6_check_20 : decode cX6_check 20 = .ok (.invokevirtual 92, 3) := by decide +kernel
theorem dX6_check_23 : decode cX6_check 23 = .ok (.ireturn, 1) := by decide +kernel
theorem dX6_check_24 : decode cX6_check 24 = .ok (.aload_n 0, 1) := by decide +kernel
theorem dX6_check_25 : decode cX6_check 25 = .ok (.invokevirtual 116, 3) := by decide +kernel
theorem dX6_check_28 : decode cX6_check 28 = .ok (.iconst 0, 1) := by decide +kernel
theorem dX6_check_29 : decode cX6_check 29 = .ok (.istore_n 3, 1) := by decide +kernel
theorem dX6_check_30 : decode cX6_check 30 = .ok (.iconst 0, 1) := by decide +kernel
theorem dX6_check_31 : decode cX6_check 31 = .ok (.istore 4, 2) := by decide +kernel
theorem dX6_check_33 : decode cX6_check 33 = .ok (.iload 4, 2) := by decide +kernel
theorem dX6_check_35 : decode cX6_check 35 = .ok (.aload_n 0, 1) := by decide +kernel
theorem dX6_check_36 : decode cX6_check 36 = .ok (.getfield 106, 3) := by decide +kernel
theorem dX6_check_39 : decode cX6_check 39 = .ok (.if_icmp .ge 94, 3) := by decide +kernel
theorem dX6_check_42 : decode cX6_check 42 = .ok (.aload_n 0, 1) := by decide +kernel
theorem dX6_check_43 : decode cX6_check 43 = .ok (.iload_n 1, 1) := by decide +kernel
theorem dX6_check_44 : decode cX6_check 44 = .ok (.iload 4, 2) := by decide +kernel
theorem dX6_check_46 : decode cX6_check 46 = .ok (.invokevirtual 109, 3) := by decide +kernel
theorem dX6_check_49 : decode cX6_check 49 = .ok (.ifCond .eq 13, 3) := by decide +kernel
theorem dX6_check_52 : decode cX6_check 52 = .ok (.aload_n 0, 1) := by decide +kernel
theorem dX6_check_53 : decode cX6_check 53 = .ok (.iload_n 1, 1) := by decide +kernel
theorem dX6_check_54 : decode cX6_check 54 = .ok (.iload 4, 2) := by decide +kernel
theorem dX6_check_56 : decode cX6_check 56 = .ok (.invokevirtual 119, 3) := by decide +kernel
theorem dX6_check_59 : decode cX6_check 59 = .ok (.goto 4, 3) := by decide +kernel
theorem dX6_check_62 : decode cX6_check 62 = .ok (.iconst 1, 1) := by decide +kernel
theorem dX6_check_63 : decode cX6_check 63 = .ok (.istore 5, 2) := by decide +kernel
theorem dX6_check_65 : decode cX6_check 65 = .ok (.aload_n 0, 1) := by decide +kernel
theorem dX6_check_66 : decode cX6_check 66 = .ok (.iload_n 1, 1) := by decide +kernel
theorem dX6_check_67 : decode cX6_check 67 = .ok (.iload 4, 2) := by decide +kernel
theorem dX6_check_69 : decode cX6_check 69 = .ok (.invokevirtual 109, 3) := by decide +kernel
theorem dX6_check_72 : decode cX6_check 72 = .ok (.ifCond .eq 9, 3) := by decide +kernel
theorem dX6_check_75 : decode cX6_check 75 = .ok (.iload 5, 2) := by decide +kernel
theorem dX6_check_77 : decode cX6_check 77 = .ok (.ineg, 1) := by decide +kernel
theorem dX6_check_78 : decode cX6_check 78 = .ok (.goto 20, 3) := by decide +kernel
theorem dX6_check_81 : decode cX6_check 81 = .ok (.aload_n 0, 1) := by decide +kernel
theorem dX6_check_82 : decode cX6_check 82 = .ok (.getfield 38, 3) := by decide +kernel
theorem dX6_check_85 : decode cX6_check 85 = .ok (.bipush 40, 2) := by decide +kernel
theorem dX6_check_87 : decode cX6_check 87 = .ok (.iload_n 1, 1) := by decide +kernel
theorem dX6_check_88 : decode cX6_check 88 = .ok (.imul, 1) := by decide +kernel
theorem dX6_check_89 : decode cX6_check 89 = .ok (.aload_n 0, 1) := by decide +kernel
theorem dX6_check_90 : decode cX6_check 90 = .ok (.getfield 50, 3) := by decide +kernel
theorem dX6_check_93 : decode cX6_check 93 = .ok (.iload 4, 2) := by decide +kernel
theorem dX6_check_95 : decode cX6_check 95 = .ok (.iaload, 1) := by decide +kernel
theorem dX6_check_96 : decode cX6_check 96 = .ok (.iadd, 1) := by decide +kernel
theorem dX6_check_97 : decode cX6_check 97 = .ok (.iaload, 1) := by decide +kernel
theorem dX6_check_98 : decode cX6_check 98 = .ok (.istore 6, 2) := by decide +kernel
theorem dX6_check_100 : decode cX6_check 100 = .ok (.iload_n 3, 1) := by decide +kernel
theorem dX6_check_101 : decode cX6_check 101 = .ok (.iload_n 2, 1) := by decide +kernel
theorem dX6_check_102 : decode cX6_check 102 = .ok (.if_icmp .ge 14, 3) := by decide +kernel
theorem dX6_check_105 : decode cX6_check 105 = .ok (.aload_n 0, 1) := by decide +kernel
theorem dX6_check_106 : decode cX6_check 106 = .ok (.getfield 44, 3) := by decide +kernel
theorem dX6_check_109 : decode cX6_check 109 = .ok (.iload_n 3, 1) := by decide +kernel
theorem dX6_check_110 : decode cX6_check 110 = .ok (.iaload, 1) := by decide +kernel
theorem dX6_check_111 : decode cX6_check 111 = .ok (.iload 6, 2) := by decide +kernel
theorem dX6_check_113 : decode cX6_check 113 = .ok (.if_icmp .eq 7, 3) := by decide +kernel
theorem dX6_check_116 : decode cX6_check 116 = .ok (.iconst 1, 1) := by decide +kernel
theorem dX6_check_117 : decode cX6_check 117 = .ok (.iload_n 3, 1) := by decide +kernel
theorem dX6_check_118 : decode cX6_check 118 = .ok (.iadd, 1) := by decide +kernel
theorem dX6_check_119 : decode cX6_check 119 = .ok (.ireturn, 1) := by decide +kernel
theorem dX6_check_120 : decode cX6_check 120 = .ok (.iinc 3 1, 3) := by decide +kernel
theorem dX6_check_123 : decode cX6_check 123 = .ok (.iload 4, 2) := by decide +kernel
theorem dX6_check_125 : decode cX6_check 125 = .ok (.iload 5, 2) := by decide +kernel
theorem dX6_check_127 : decode cX6_check 127 = .ok (.iadd, 1) := by decide +kernel
theorem dX6_check_128 : decode cX6_check 128 = .ok (.istore 4, 2) := by decide +kernel
theorem dX6_check_130 : decode cX6_check 130 = .ok (.goto (-97), 3) := by decide +kernel
theorem dX6_check_133 : decode cX6_check 133 = .ok (.iload_n 2, 1) := by decide +kernel
theorem dX6_check_134 : decode cX6_check 134 = .ok (.iload_n 3, 1) := by decide +kernel
theorem dX6_check_135 : decode cX6_check 135 = .ok (.if_icmp .le 8, 3) := by decide +kernel
theorem dX6_check_138 : decode cX6_check 138 = .ok (.bipush 99, 2) := by decide +kernel
theorem dX6_check_140 : decode cX6_check 140 = .ok (.goto 4, 3) := by decide +kernel
theorem dX6_check_143 : decode cX6_check 143 = .ok (.iconst 0, 1) := by decide +kernel
theorem dX6_check_144 : decode cX6_check 144 = .ok (.ireturn, 1) := by decide +kernel
theorem dX6_count_0 : decode cX6_count 0 = .ok (.iconst 0, 1) := by decide +kernel
theorem dX6_count_1 : decode cX6_count 1 = .ok (.istore_n 2, 1) := by decide +kernel
theorem dX6_count_2 : decode cX6_count 2 = .ok (.iload_n 1, 1) := by decide +kernel
theorem dX6_count_3 : decode cX6_count 3 = .ok (.tableswitch 160 0 5 #[37, 42, 47, 81, 120, 125], 37) := by decide +kernel
theorem dX6_count_40 : decode cX6_count 40 = .ok (.aload_n 0, 1) := by decide +kernel
theorem dX6_count_41 : decode cX6_count 41 = .ok (.getfield 82, 3) := by decide +kernel
theorem dX6_count_44 : decode cX6_count 44 = .ok (.ireturn, 1) := by decide +kernel
theorem dX6_count_45 : decode cX6_count 45 = .ok (.aload_n 0, 1) := by decide +kernel
theorem dX6_count_46 : decode cX6_count 46 = .ok (.getfield 89, 3) := by decide +kernel
theorem dX6_count_49 : decode cX6_count 49 = .ok (.ireturn, 1) := by decide +kernel
theorem dX6_count_50 : decode cX6_count 50 = .ok (.iconst 0, 1) := by decide +kernel
theorem dX6_count_51 : decode cX6_count 51 = .ok (.istore_n 3, 1) := by decide +kernel
theorem dX6_count_52 : decode cX6_count 52 = .ok (.iload_n 3, 1) := by decide +kernel
theorem dX6_count_53 : decode cX6_count 53 = .ok (.aload_n 0, 1) := by decide +kernel
theorem dX6_count_54 : decode cX6_count 54 = .ok (.getfield 82, 3) := by decide +kernel
theorem dX6_count_57 : decode cX6_count 57 = .ok (.if_icmp .ge 25, 3) := by decide +kernel
theorem dX6_count_60 : decode cX6_count 60 = .ok (.iload_n 2, 1) := by decide +kernel
theorem dX6_count_61 : decode cX6_count 61 = .ok (.aload_n 0, 1) := by decide +kernel
theorem dX6_count_62 : decode cX6_count 62 = .ok (.iload_n 3, 1) := by decide +kernel
theorem dX6_count_63 : decode cX6_count 63 = .ok (.invokevirtual 103, 3) := by decide +kernel
theorem dX6_count_66 : decode cX6_count 66 = .ok (.ifCond .eq 7, 3) := by decide +kernel
theorem dX6_count_69 : decode cX6_count 69 = .ok (.iconst 1, 1) := by decide +kernel
theorem dX6_count_70 : decode cX6_count 70 = .ok (.goto 4, 3) := by decide +kernel
theorem dX6_count_73 : decode cX6_count 73 = .ok (.iconst 0, 1) := by decide +kernel
theorem dX6_count_74 : decode cX6_count 74 = .ok (.iadd, 1) := by decide +kernel
theorem dX6_count_75 : decode cX6_count 75 = .ok (.istore_n 2, 1) := by decide +kernel
theorem dX6_count_76 : decode cX6_count 76 = .ok (.iinc 3 1, 3) := by decide +kernel
theorem dX6_count_79 : decode cX6_count 79 = .ok (.goto (-27), 3) := by decide +kernel
theorem dX6_count_82 : decode cX6_count 82 = .ok (.iload_n 2, 1) := by decide +kernel
theorem dX6_count_83 : decode cX6_count 83 = .ok (.ireturn, 1) := by decide +kernel
theorem dX6_count_84 : decode cX6_count 84 = .ok (.iconst 0, 1) := by decide +kernel
theorem dX6_count_85 : decode cX6_count 85 = .ok (.istore_n 3, 1) := by decide +kernel
theorem dX6_count_86 : decode cX6_count 86 = .ok (.iload_n 3, 1) := by decide +kernel
theorem dX6_count_87 : decode cX6_count 87 = .ok (.aload_n 0, 1) := by decide +kernel
theorem dX6_count_88 : decode cX6_count 88 = .ok (.getfield 82, 3) := by decide +kernel
theorem dX6_count_91 : decode cX6_count 91 = .ok (.if_icmp .ge 30, 3) := by decide +kernel
theorem dX6_count_94 : decode cX6_count 94 = .ok (.iload_n 2, 1) := by decide +kernel
theorem dX6_count_95 : decode cX6_count 95 = .ok (.aload_n 0, 1) := by decide +kernel
theorem dX6_count_96 : decode cX6_count 96 = .ok (.iload_n 3, 1) := by decide +kernel
theorem dX6_count_97 : decode cX6_count 97 = .ok (.invokevirtual 103, 3) := by decide +kernel
theorem dX6_count_100 : decode cX6_count 100 = .ok (.ifCond .eq 7, 3) := by decide +kernel
theorem dX6_count_103 : decode cX6_count 103 = .ok (.iconst 0, 1) := by decide +kernel
theorem dX6_count_104 : decode cX6_count 104 = .ok (.goto 9, 3) := by decide +kernel
theorem dX6_count_107 : decode cX6_count 107 = .ok (.aload_n 0, 1) := by decide +kernel
theorem dX6_count_108 : decode cX6_count 108 = .ok (.getfield 22, 3) := by decide +kernel
theorem dX6_count_111 : decode cX6_count 111 = .ok (.iload_n 3, 1) := by decide +kernel
theorem dX6_count_112 : decode cX6_count 112 = .ok (.iaload, 1) := by decide +kernel
theorem dX6_count_113 : decode cX6_count 113 = .ok (.iadd, 1) := by decide +kernel
theorem dX6_count_114 : decode cX6_count 114 = .ok (.istore_n 2, 1) := by decide +kernel
theorem dX6_count_115 : decode cX6_count 115 = .ok (.iinc 3 1, 3) := by decide +kernel
theorem dX6_count_118 : decode cX6_count 118 = .ok (.goto (-32), 3) := by decide +kernel
theorem dX6_count_121 : decode cX6_count 121 = .ok (.iload_n 2, 1) := by decide +kernel
theorem dX6_count_122 : decode cX6_count 122 = .ok (.ireturn, 1) := by decide +kernel
theorem dX6_count_123 : decode cX6_count 123 = .ok (.aload_n 0, 1) := by decide +kernel
theorem dX6_count_124 : decode cX6_count 124 = .ok (.getfield 150, 3) := by decide +kernel
theorem dX6_count_127 : decode cX6_count 127 = .ok (.ireturn, 1) := by decide +kernel
theorem dX6_count_128 : decode cX6_count 128 = .ok (.iconst 0, 1) := by decide +kernel
theorem dX6_count_129 : decode cX6_count 129 = .ok (.istore_n 3, 1) := by decide +kernel
theorem dX6_count_130 : decode cX6_count 130 = .ok (.iload_n 3, 1) := by decide +kernel
theorem dX6_count_131 : decode cX6_count 131 = .ok (.aload_n 0, 1) := by decide +kernel
theorem dX6_count_132 : decode cX6_count 132 = .ok (.getfield 89, 3) := by decide +kernel
theorem dX6_count_135 : decode cX6_count 135 = .ok (.if_icmp .ge 26, 3) := by decide +kernel
theorem dX6_count_138 : decode cX6_count 138 = .ok (.iload_n 2, 1) := by decide +kernel
theorem dX6_count_139 : decode cX6_count 139 = .ok (.aload_n 0, 1) := by decide +kernel
theorem dX6_count_140 : decode cX6_count 140 = .ok (.getfield 62, 3) := by decide +kernel
theorem dX6_count_143 : decode cX6_count 143 = .ok (.iload_n 3, 1) := by decide +kernel
theorem dX6_count_144 : decode cX6_count 144 = .ok (.iaload, 1) := by decide +kernel
theorem dX6_count_145 : decode cX6_count 145 = .ok (.ifCond .le 7, 3) := by decide +kernel
theorem dX6_count_148 : decode cX6_count 148 = .ok (.iconst 1, 1) := by decide +kernel
theorem dX6_count_149 : decode cX6_count 149 = .ok (.goto 4, 3) := by decide +kernel
theorem dX6_count_152 : decode cX6_count 152 = .ok (.iconst 0, 1) := by decide +kernel
theorem dX6_count_153 : decode cX6_count 153 = .ok (.iadd, 1) := by decide +kernel
theorem dX6_count_154 : decode cX6_count 154 = .ok (.istore_n 2, 1) := by decide +kernel
theorem dX6_count_155 : decode cX6_count 155 = .ok (.iinc 3 1, 3) := by decide +kernel
theorem dX6_count_158 : decode cX6_count 158 = .ok (.goto (-28), 3) := by decide +kernel
theorem dX6_count_161 : decode cX6_count 161 = .ok (.iload_n 2, 1) := by decide +kernel
theorem dX6_count_162 : decode cX6_count 162 = .ok (.ireturn, 1) := by decide +kernel
theorem dX6_count_163 : decode cX6_count 163 = .ok (.aload_n 0, 1) := by decide +kernel
theorem dX6_count_164 : decode cX6_count 164 = .ok (.iconst 1, 1) := by decide +kernel
theorem dX6_count_165 : decode cX6_count 165 = .ok (.invokevirtual 92, 3) := by decide +kernel
theorem dX6_count_168 : decode cX6_count 168 = .ok (.ireturn, 1) := by decide +kernel
theorem dX6_found_0 : decode cX6_found 0 = .ok (.iload_n 1, 1) := by decide +kernel
theorem dX6_found_1 : decode cX6_found 1 = .ok (.iconst 1, 1) := by decide +kernel
theorem dX6_found_2 : decode cX6_found 2 = .ok (.iconst 5, 1) := by decide +kernel
theorem dX6_found_3 : decode cX6_found 3 = .ok (.invokestatic 85, 3) := by decide +kernel
theorem dX6_found_6 : decode cX6_found 6 = .ok (.ifCond .eq 12, 3) := by decide +kernel
theorem dX6_found_9 : decode cX6_found 9 = .ok (.aload_n 0, 1) := by decide +kernel
theorem dX6_found_10 : decode cX6_found 10 = .ok (.getfield 47, 3) := by decide +kernel
theorem dX6_found_13 : decode cX6_found 13 = .ok (.iload_n 1, 1) := by decide +kernel
theorem dX6_found_14 : decode cX6_found 14 = .ok (.iaload, 1) := by decide +kernel
theorem dX6_found_15 : decode cX6_found 15 = .ok (.goto 8, 3) := by decide +kernel
theorem dX6_found_18 : decode cX6_found 18 = .ok (.aload_n 0, 1) := by decide +kernel
theorem dX6_found_19 : decode cX6_found 19 = .ok (.iconst 1, 1) := by decide +kernel
theorem dX6_found_20 : decode cX6_found 20 = .ok (.invokevirtual 92, 3) := by decide +kernel
theorem dX6_found_23 : decode cX6_found 23 = .ok (.ireturn, 1) := by decide +kernel
theorem dJ9_floorMod_7cf53_0 : decode cJ9_floorMod_7cf53 0 = .ok (.iload_n 0, 1) := by decide +kernel
theorem dJ9_floorMod_7cf53_1 : decode cJ9_floorMod_7cf53 1 = .ok (.iload_n 1, 1) := by decide +kernel
theorem dJ9_floorMod_7cf53_2 : decode cJ9_floorMod_7cf53 2 = .ok (.irem, 1) := by decide +kernel
theorem dJ9_floorMod_7cf53_3 : decode cJ9_floorMod_7cf53 3 = .ok (.istore_n 2, 1) := by decide +kernel
theorem dJ9_floorMod_7cf53_4 : decode cJ9_floorMod_7cf53 4 = .ok (.iload_n 0, 1) := by decide +kernel
theorem dJ9_floorMod_7cf53_5 : decode cJ9_floorMod_7cf53 5 = .ok (.iload_n 1, 1) := by decide +kernel
theorem dJ9_floorMod_7cf53_6 : decode cJ9_floorMod_7cf53 6 = .ok (.ixor, 1) := by decide +kernel
theorem dJ9_floorMod_7cf53_7 : decode cJ9_floorMod_7cf53 7 = .ok (.ifCond .ge 11, 3) := by decide +kernel
theorem dJ9_floorMod_7cf53_10 : decode cJ9_floorMod_7cf53 10 = .ok (.iload_n 2, 1) := by decide +kernel
theorem dJ9_floorMod_7cf53_11 : decode cJ9_floorMod_7cf53 11 = .ok (.ifCond .eq 7, 3) := by decide +kernel
theorem dJ9_floorMod_7cf53_14 : decode cJ9_floorMod_7cf53 14 = .ok (.iload_n 2, 1) := by decide +kernel
theorem dJ9_floorMod_7cf53_15 : decode cJ9_floorMod_7cf53 15 = .ok (.iload_n 1, 1) := by decide +kernel
theorem dJ9_floorMod_7cf53_16 : decode cJ9_floorMod_7cf53 16 = .ok (.iadd, 1) := by decide +kernel
theorem dJ9_floorMod_7cf53_17 : decode cJ9_floorMod_7cf53 17 = .ok (.ireturn, 1) := by decide +kernel
theorem dJ9_floorMod_7cf53_18 : decode cJ9_floorMod_7cf53 18 = .ok (.iload_n 2, 1) := by decide +kernel
theorem dJ9_floorMod_7cf53_19 : decode cJ9_floorMod_7cf53 19 = .ok (.ireturn, 1) := by decide +kernel
theorem dJ9_min_7cf53_0 : decode cJ9_min_7cf53 0 = .ok (.iload_n 0, 1) := by decide +kernel
theorem dJ9_min_7cf53_1 : decode cJ9_min_7cf53 1 = .ok (.iload_n 1, 1) := by decide +kernel
theorem dJ9_min_7cf53_2 : decode cJ9_min_7cf53 2 = .ok (.if_icmp .gt 7, 3) := by decide +kernel
theorem dJ9_min_7cf53_5 : decode cJ9_min_7cf53 5 = .ok (.iload_n 0, 1) := by decide +kernel
theorem dJ9_min_7cf53_6 : decode cJ9_min_7cf53 6 = .ok (.goto 4, 3) := by decide +kernel
theorem dJ9_min_7cf53_9 : decode cJ9_min_7cf53 9 = .ok (.iload_n 1, 1) := by decide +kernel
theorem dJ9_min_7cf53_10 : decode cJ9_min_7cf53 10 = .ok (.ireturn, 1) := by decide +kernel
theorem dL_law_0 : decode cL_law 0 = .ok (.new 7, 3) := by decide +kernel
theorem dL_law_3 : decode cL_law 3 = .ok (.dup, 1) := by decide +kernel
theorem dL_law_4 : decode cL_law 4 = .ok (.invokespecial 9, 3) := by decide +kernel
theorem dL_law_7 : decode cL_law 7 = .ok (.astore_n 1, 1) := by decide +kernel
theorem dL_law_8 : decode cL_law 8 = .ok (.new 10, 3) := by decide +kernel
theorem dL_law_11 : decode cL_law 11 = .ok (.dup, 1) := by decide +kernel
theorem dL_law_12 : decode cL_law 12 = .ok (.invokespecial 12, 3) := by decide +kernel
theorem dL_law_15 : decode cL_law 15 = .ok (.astore_n 2, 1) := by decide +kernel
theorem dL_law_16 : decode cL_law 16 = .ok (.iconst 0, 1) := by decide +kernel
theorem dL_law_17 : decode cL_law 17 = .ok (.istore_n 3, 1) := by decide +kernel
theorem dL_law_18 : decode cL_law 18 = .ok (.iload_n 3, 1) := by decide +kernel
theorem dL_law_19 : decode cL_law 19 = .ok (.aload_n 0, 1) := by decide +kernel
theorem dL_law_20 : decode cL_law 20 = .ok (.arraylength, 1) := by decide +kernel
theorem dL_law_21 : decode cL_law 21 = .ok (.iconst 5, 1) := by decide +kernel
theorem dL_law_22 : decode cL_law 22 = .ok (.isub, 1) := by decide +kernel
theorem dL_law_23 : decode cL_law 23 = .ok (.if_icmp .gt 839, 3) := by decide +kernel
theorem dL_law_26 : decode cL_law 26 = .ok (.aload_n 0, 1) := by decide +kernel
theorem dL_law_27 : decode cL_law 27 = .ok (.iload_n 3, 1) := by decide +kernel
theorem dL_law_28 : decode cL_law 28 = .ok (.iaload, 1) := by decide +kernel
theorem dL_law_29 : decode cL_law 29 = .ok (.bipush 31, 2) := by decide +kernel
theorem dL_law_31 : decode cL_law 31 = .ok (.iand, 1) := by decide +kernel
theorem dL_law_32 : decode cL_law 32 = .ok (.tableswitch 824 0 23 #[112, 135, 168, 201, 254, 287, 330, 363, 396, 429, 452, 475, 498, 531, 554, 587, 620, 653, 686, 709, 732, 755, 778, 801], 112) := by decide +kernel
theorem dL_law_144 : decode cL_law 144 = .ok (.aload_n 1, 1) := by decide +kernel
theorem dL_law_145 : decode cL_law 145 = .ok (.aload_n 0, 1) := by decide +kernel
theorem dL_law_146 : decode cL_law 146 = .ok (.iload_n 3, 1) := by decide +kernel
theorem dL_law_147 : decode cL_law 147 = .ok (.iconst 1, 1) := by decide +kernel
theorem dL_law_148 : decode cL_law 148 = .ok (.iadd, 1) := by decide +kernel
theorem dL_law_149 : decode cL_law 149 = .ok (.iaload, 1) := by decide +kernel
theorem dL_law_150 : decode cL_law 150 = .ok (.invokevirtual 13, 3) := by decide +kernel
theorem dL_law_153 : decode cL_law 153 = .ok (.aload_n 2, 1) := by decide +kernel
theorem dL_law_154 : decode cL_law 154 = .ok (.aload_n 0, 1) := by decide +kernel
theorem dL_law_155 : decode cL_law 155 = .ok (.iload_n 3, 1) := by decide +kernel
theorem dL_law_156 : decode cL_law 156 = .ok (.iconst 1, 1) := by decide +kernel
theorem dL_law_157 : decode cL_law 157 = .ok (.iadd, 1) := by decide +kernel
theorem dL_law_158 : decode cL_law 158 = .ok (.iaload, 1) := by decide +kernel
theorem dL_law_159 : decode cL_law 159 = .ok (.invokevirtual 17, 3) := by decide +kernel
theorem dL_law_162 : decode cL_law 162 = .ok (.if_icmp .eq 694, 3) := by decide +kernel
theorem dL_law_165 : decode cL_law 165 = .ok (.iconst 0, 1) := by decide +kernel
theorem dL_law_166 : decode cL_law 166 = .ok (.ireturn, 1) := by decide +kernel
theorem dL_law_167 : decode cL_law 167 = .ok (.aload_n 1, 1) := by decide +kernel
theorem dL_law_168 : decode cL_law 168 = .ok (.aload_n 0, 1) := by decide +kernel
theorem dL_law_169 : decode cL_law 169 = .ok (.iload_n 3, 1) := by decide +kernel
theorem dL_law_170 : decode cL_law 170 = .ok (.iconst 1, 1) := by decide +kernel
theorem dL_law_171 : decode cL_law 171 = .ok (.iadd, 1) := by decide +kernel
theorem dL_law_172 : decode cL_law 172 = .ok (.iaload, 1) := by decide +kernel
theorem dL_law_173 : decode cL_law 173 = .ok (.aload_n 0, 1) := by decide +kernel
theorem dL_law_174 : decode cL_law 174 = .ok (.iload_n 3, 1) := by decide +kernel
theorem dL_law_175 : decode cL_law 175 = .ok (.iconst 2, 1) := by decide +kernel
theorem dL_law_176 : decode cL_law 176 = .ok (.iadd, 1) := by decide +kernel
theorem dL_law_177 : decode cL_law 177 = .ok (.iaload, 1) := by decide +kernel
theorem dL_law_178 : decode cL_law 178 = .ok (.invokevirtual 18, 3) := by decide +kernel
theorem dL_law_181 : decode cL_law 181 = .ok (.aload_n 2, 1) := by decide +kernel
theorem dL_law_182 : decode cL_law 182 = .ok (.aload_n 0, 1) := by decide +kernel
theorem dL_law_183 : decode cL_law 183 = .ok (.iload_n 3, 1) := by decide +kernel
theorem dL_law_184 : decode cL_law 184 = .ok (.iconst 1, 1) := by decide +kernel
theorem dL_law_185 : decode cL_law 185 = .ok (.iadd, 1) := by decide +kernel
theorem dL_law_186 : decode cL_law 186 = .ok (.iaload, 1) := by decide +kernel
theorem dL_law_187 : decode cL_law 187 = .ok (.aload_n 0, 1) := by decide +kernel
theorem dL_law_188 : decode cL_law 188 = .ok (.iload_n 3, 1) := by decide +kernel
theorem dL_law_189 : decode cL_law 189 = .ok (.iconst 2, 1) := by decide +kernel
theorem dL_law_190 : decode cL_law 190 = .ok (.iadd, 1) := by decide +kernel
theorem dL_law_191 : decode cL_law 191 = .ok (.iaload, 1) := by decide +kernel
theorem dL_law_192 : decode cL_law 192 = .ok (.invokevirtual 22, 3) := by decide +kernel
theorem dL_law_195 : decode cL_law 195 = .ok (.if_icmp .eq 661, 3) := by decide +kernel
theorem dL_law_198 : decode cL_law 198 = .ok (.iconst 0, 1) := by decide +kernel
theorem dL_law_199 : decode cL_law 199 = .ok (.ireturn, 1) := by decide +kernel
theorem dL_law_200 : decode cL_law 200 = .ok (.aload_n 1, 1) := by decide +kernel
theorem dL_law_201 : decode cL_law 201 = .ok (.aload_n 0, 1) := by decide +kernel
theorem dL_law_202 : decode cL_law 202 = .ok (.iload_n 3, 1) := by decide +kernel
theorem dL_law_203 : decode cL_law 203 = .ok (.iconst 1, 1) := by decide +kernel
theorem dL_law_204 : decode cL_law 204 = .ok (.iadd, 1) := by decide +kernel
theorem dL_law_205 : decode cL_law 205 = .ok (.iaload, 1) := by decide +kernel
theorem dL_law_206 : decode cL_law 206 = .ok (.aload_n 0, 1) := by decide +kernel
theorem dL_law_207 : decode cL_law 207 = .ok (.iload_n 3, 1) := by decide +kernel
theorem dL_law_208 : decode cL_law 208 = .ok (.iconst 2, 1) := by decide +kernel
theorem dL_law_209 : decode cL_law 209 = .ok (.iadd, 1) := by decide +kernel
theorem dL_law_210 : decode cL_law 210 = .ok (.iaload, 1) := by decide +kernel
theorem dL_law_211 : decode cL_law 211 = .ok (.invokevirtual 23, 3) := by decide +kernel
theorem dL_law_214 : decode cL_law 214 = .ok (.aload_n 2, 1) := by decide +kernel
theorem dL_law_215 : decode cL_law 215 = .ok (.aload_n 0, 1) := by decide +kernel
theorem dL_law_216 : decode cL_law 216 = .ok (.iload_n 3, 1) := by decide +kernel
theorem dL_law_217 : decode cL_law 217 = .ok (.iconst 1, 1) := by decide +kernel
theorem dL_law_218 : decode cL_law 218 = .ok (.iadd, 1) := by decide +kernel
theorem dL_law_219 : decode cL_law 219 = .ok (.iaload, 1) := by decide +kernel
theorem dL_law_220 : decode cL_law 220 = .ok (.aload_n 0, 1) := by decide +kernel
theorem dL_law_221 : decode cL_law 221 = .ok (.iload_n 3, 1) := by decide +kernel
theorem dL_law_222 : decode cL_law 222 = .ok (.iconst 2, 1) := by decide +kernel
theorem dL_law_223 : decode cL_law 223 = .ok (.iadd, 1) := by decide +kernel
theorem dL_law_224 : decode cL_law 224 = .ok (.iaload, 1) := by decide +kernel
theorem dL_law_225 : decode cL_law 225 = .ok (.invokevirtual 26, 3) := by decide +kernel
theorem dL_law_228 : decode cL_law 228 = .ok (.if_icmp .eq 628, 3) := by decide +kernel
theorem dL_law_231 : decode cL_law 231 = .ok (.iconst 0, 1) := by decide +kernel
theorem dL_law_232 : decode cL_law 232 = .ok (.ireturn, 1) := by decide +kernel
theorem dL_law_233 : decode cL_law 233 = .ok (.aload_n 1, 1) := by decide +kernel
theorem dL_law_234 : decode cL_law 234 = .ok (.aload_n 0, 1) := by decide +kernel
theorem dL_law_235 : decode cL_law 235 = .ok (.iload_n 3, 1) := by decide +kernel
theorem dL_law_236 : decode cL_law 236 = .ok (.iconst 1, 1) := by decide +kernel
theorem dL_law_237 : decode cL_law 237 = .ok (.iadd, 1) := by decide +kernel
theorem dL_law_238 : decode cL_law 238 = .ok (.iaload, 1) := by decide +kernel
theorem dL_law_239 : decode cL_law 239 = .ok (.aload_n 0, 1) := by decide +kernel
theorem dL_law_240 : decode cL_law 240 = .ok (.iload_n 3, 1) := by decide +kernel
theorem dL_law_241 : decode cL_law 241 = .ok (.iconst 2, 1) := by decide +kernel
theorem dL_law_242 : decode cL_law 242 = .ok (.iadd, 1) := by decide +kernel
theorem dL_law_243 : decode cL_law 243 = .ok (.iaload, 1) := by decide +kernel
theorem dL_law_244 : decode cL_law 244 = .ok (.aload_n 0, 1) := by decide +kernel
theorem dL_law_245 : decode cL_law 245 = .ok (.iload_n 3, 1) := by decide +kernel
theorem dL_law_246 : decode cL_law 246 = .ok (.iconst 3, 1) := by decide +kernel
theorem dL_law_247 : decode cL_law 247 = .ok (.iadd, 1) := by decide +kernel
theorem dL_law_248 : decode cL_law 248 = .ok (.iaload, 1) := by decide +kernel
theorem dL_law_249 : decode cL_law 249 = .ok (.aload_n 0, 1) := by decide +kernel
theorem dL_law_250 : decode cL_law 250 = .ok (.iload_n 3, 1) := by decide +kernel
theorem dL_law_251 : decode cL_law 251 = .ok (.iconst 4, 1) := by decide +kernel
theorem dL_law_252 : decode cL_law 252 = .ok (.iadd, 1) := by decide +kernel
theorem dL_law_253 : decode cL_law 253 = .ok (.iaload, 1) := by decide +kernel
theorem dL_law_254 : decode cL_law 254 = .ok (.invokevirtual 27, 3) := by decide +kernel
theorem dL_law_257 : decode cL_law 257 = .ok (.aload_n 2, 1) := by decide +kernel
theorem dL_law_258 : decode cL_law 258 = .ok (.aload_n 0, 1) := by decide +kernel
theorem dL_law_259 : decode cL_law 259 = .ok (.iload_n 3, 1) := by decide +kernel
theorem dL_law_260 : decode cL_law 260 = .ok (.iconst 1, 1) := by decide +kernel
theorem dL_law_261 : decode cL_law 261 = .ok (.iadd, 1) := by decide +kernel
theorem dL_law_262 : decode cL_law 262 = .ok (.iaload, 1) := by decide +kernel
theorem dL_law_263 : decode cL_law 263 = .ok (.aload_n 0, 1) := by decide +kernel
theorem dL_law_264 : decode cL_law 264 = .ok (.iload_n 3, 1) := by decide +kernel
theorem dL_law_265 : decode cL_law 265 = .ok (.iconst 2, 1) := by decide +kernel
theorem dL_law_266 : decode cL_law 266 = .ok (.iadd, 1) := by decide +kernel
theorem dL_law_267 : decode cL_law 267 = .ok (.iaload, 1) := by decide +kernel
theorem dL_law_268 : decode cL_law 268 = .ok (.aload_n 0, 1) := by decide +kernel
theorem dL_law_269 : decode cL_law 269 = .ok (.iload_n 3, 1) := by decide +kernel
theorem dL_law_270 : decode cL_law 270 = .ok (.iconst 3, 1) := by decide +kernel
theorem dL_law_271 : decode cL_law 271 = .ok (.iadd, 1) := by decide +kernel
theorem dL_law_272 : decode cL_law 272 = .ok (.iaload, 1) := by decide +kernel
theorem dL_law_273 : decode cL_law 273 = .ok (.aload_n 0, 1) := by decide +kernel
theorem dL_law_274 : decode cL_law 274 = .ok (.iload_n 3, 1) := by decide +kernel
theorem dL_law_275 : decode cL_law 275 = .ok (.iconst 4, 1) := by decide +kernel
theorem dL_law_276 : decode cL_law 276 = .ok (.iadd, 1) := by decide +kernel
theorem dL_law_277 : decode cL_law 277 = .ok (.iaload, 1) := by decide +kernel
theorem dL_law_278 : decode cL_law 278 = .ok (.invokevirtual 31, 3) := by decide +kernel
theorem dL_law_281 : decode cL_law 281 = .ok (.if_icmp .eq 575, 3) := by decide +kernel
theorem dL_law_284 : decode cL_law 284 = .ok (.iconst 0, 1) := by decide +kernel
theorem dL_law_285 : decode cL_law 285 = .ok (.ireturn, 1) := by decide +kernel
theorem dL_law_286 : decode cL_law 286 = .ok (.aload_n 1, 1) := by decide +kernel
theorem dL_law_287 : decode cL_law 287 = .ok (.aload_n 0, 1) := by decide +kernel
theorem dL_law_288 : decode cL_law 288 = .ok (.iload_n 3, 1) := by decide +kernel
theorem dL_law_289 : decode cL_law 289 = .ok (.iconst 1, 1) := by decide +kernel
theorem dL_law_290 : decode cL_law 290 = .ok (.iadd, 1) := by decide +kernel
theorem dL_law_291 : decode cL_law 291 = .ok (.iaload, 1) := by decide +kernel
theorem dL_law_292 : decode cL_law 292 = .ok (.aload_n 0, 1) := by decide +kernel
theorem dL_law_293 : decode cL_law 293 = .ok (.iload_n 3, 1) := by decide +kernel
theorem dL_law_294 : decode cL_law 294 = .ok (.iconst 2, 1) := by decide +kernel
theorem dL_law_295 : decode cL_law 295 = .ok (.iadd, 1) := by decide +kernel
theorem dL_law_296 : decode cL_law 296 = .ok (.iaload, 1) := by decide +kernel
theorem dL_law_297 : decode cL_law 297 = .ok (.invokevirtual 32, 3) := by decide +kernel
theorem dL_law_300 : decode cL_law 300 = .ok (.aload_n 2, 1) := by decide +kernel
theorem dL_law_301 : decode cL_law 301 = .ok (.aload_n 0, 1) := by decide +kernel
theorem dL_law_302 : decode cL_law 302 = .ok (.iload_n 3, 1) := by decide +kernel
theorem dL_law_303 : decode cL_law 303 = .ok (.iconst 1, 1) := by decide +kernel
theorem dL_law_304 : decode cL_law 304 = .ok (.iadd, 1) := by decide +kernel
theorem dL_law_305 : decode cL_law 305 = .ok (.iaload, 1) := by decide +kernel
theorem dL_law_306 : decode cL_law 306 = .ok (.aload_n 0, 1) := by decide +kernel
theorem dL_law_307 : decode cL_law 307 = .ok (.iload_n 3, 1) := by decide +kernel
theorem dL_law_308 : decode cL_law 308 = .ok (.iconst 2, 1) := by decide +kernel
theorem dL_law_309 : decode cL_law 309 = .ok (.iadd, 1) := by decide +kernel
theorem dL_law_310 : decode cL_law 310 = .ok (.iaload, 1) := by decide +kernel
theorem dL_law_311 : decode cL_law 311 = .ok (.invokevirtual 35, 3) := by decide +kernel
theorem dL_law_314 : decode cL_law 314 = .ok (.if_icmp .eq 542, 3) := by decide +kernel
theorem dL_law_317 : decode cL_law 317 = .ok (.iconst 0, 1) := by decide +kernel
theorem dL_law_318 : decode cL_law 318 = .ok (.ireturn, 1) := by decide +kernel
theorem dL_law_319 : decode cL_law 319 = .ok (.aload_n 1, 1) := by decide +kernel
theorem dL_law_320 : decode cL_law 320 = .ok (.aload_n 0, 1) := by decide +kernel
theorem dL_law_321 : decode cL_law 321 = .ok (.iload_n 3, 1) := by decide +kernel
theorem dL_law_322 : decode cL_law 322 = .ok (.iconst 1, 1) := by decide +kernel
theorem dL_law_323 : decode cL_law 323 = .ok (.iadd, 1) := by decide +kernel
theorem dL_law_324 : decode cL_law 324 = .ok (.iaload, 1) := by decide +kernel
theorem dL_law_325 : decode cL_law 325 = .ok (.aload_n 0, 1) := by decide +kernel
theorem dL_law_326 : decode cL_law 326 = .ok (.iload_n 3, 1) := by decide +kernel
theorem dL_law_327 : decode cL_law 327 = .ok (.iconst 2, 1) := by decide +kernel
theorem dL_law_328 : decode cL_law 328 = .ok (.iadd, 1) := by decide +kernel
theorem dL_law_329 : decode cL_law 329 = .ok (.iaload, 1) := by decide +kernel
theorem dL_law_330 : decode cL_law 330 = .ok (.aload_n 0, 1) := by decide +kernel
theorem dL_law_331 : decode cL_law 331 = .ok (.iload_n 3, 1) := by decide +kernel
theorem dL_law_332 : decode cL_law 332 = .ok (.iconst 3, 1) := by decide +kernel
theorem dL_law_333 : decode cL_law 333 = .ok (.iadd, 1) := by decide +kernel
theorem dL_law_334 : decode cL_law 334 = .ok (.iaload, 1) := by decide +kernel
theorem dL_law_335 : decode cL_law 335 = .ok (.invokevirtual 36, 3) := by decide +kernel
theorem dL_law_338 : decode cL_law 338 = .ok (.aload_n 2, 1) := by decide +kernel
theorem dL_law_339 : decode cL_law 339 = .ok (.aload_n 0, 1) := by decide +kernel
theorem dL_law_340 : decode cL_law 340 = .ok (.iload_n 3, 1) := by decide +kernel
theorem dL_law_341 : decode cL_law 341 = .ok (.iconst 1, 1) := by decide +kernel
theorem dL_law_342 : decode cL_law 342 = .ok (.iadd, 1) := by decide +kernel
theorem dL_law_343 : decode cL_law 343 = .ok (.iaload, 1) := by decide +kernel
theorem dL_law_344 : decode cL_law 344 = .ok (.aload_n 0, 1) := by decide +kernel
theorem dL_law_345 : decode cL_law 345 = .ok (.iload_n 3, 1) := by decide +kernel
theorem dL_law_346 : decode cL_law 346 = .ok (.iconst 2, 1) := by decide +kernel
theorem dL_law_347 : decode cL_law 347 = .ok (.iadd, 1) := by decide +kernel
theorem dL_law_348 : decode cL_law 348 = .ok (.iaload, 1) := by decide +kernel
theorem dL_law_349 : decode cL_law 349 = .ok (.aload_n 0, 1) := by decide +kernel
theorem dL_law_350 : decode cL_law 350 = .ok (.iload_n 3, 1) := by decide +kernel
theorem dL_law_351 : decode cL_law 351 = .ok (.iconst 3, 1) := by decide +kernel
theorem dL_law_352 : decode cL_law 352 = .ok (.iadd, 1) := by decide +kernel
theorem dL_law_353 : decode cL_law 353 = .ok (.iaload, 1) := by decide +kernel
theorem dL_law_354 : decode cL_law 354 = .ok (.invokevirtual 40, 3) := by decide +kernel
theorem dL_law_357 : decode cL_law 357 = .ok (.if_icmp .eq 499, 3) := by decide +kernel
theorem dL_law_360 : decode cL_law 360 = .ok (.iconst 0, 1) := by decide +kernel
theorem dL_law_361 : decode cL_law 361 = .ok (.ireturn, 1) := by decide +kernel
theorem dL_law_362 : decode cL_law 362 = .ok (.aload_n 1, 1) := by decide +kernel
theorem dL_law_363 : decode cL_law 363 = .ok (.aload_n 0, 1) := by decide +kernel
theorem dL_law_364 : decode cL_law 364 = .ok (.iload_n 3, 1) := by decide +kernel
theorem dL_law_365 : decode cL_law 365 = .ok (.iconst 1, 1) := by decide +kernel
theorem dL_law_366 : decode cL_law 366 = .ok (.iadd, 1) := by decide +kernel
theorem dL_law_367 : decode cL_law 367 = .ok (.iaload, 1) := by decide +kernel
theorem dL_law_368 : decode cL_law 368 = .ok (.aload_n 0, 1) := by decide +kernel
theorem dL_law_369 : decode cL_law 369 = .ok (.iload_n 3, 1) := by decide +kernel
theorem dL_law_370 : decode cL_law 370 = .ok (.iconst 2, 1) := by decide +kernel
theorem dL_law_371 : decode cL_law 371 = .ok (.iadd, 1) := by decide +kernel
theorem dL_law_372 : decode cL_law 372 = .ok (.iaload, 1) := by decide +kernel
theorem dL_law_373 : decode cL_law 373 = .ok (.invokevirtual 41, 3) := by decide +kernel
theorem dL_law_376 : decode cL_law 376 = .ok (.aload_n 2, 1) := by decide +kernel
theorem dL_law_377 : decode cL_law 377 = .ok (.aload_n 0, 1) := by decide +kernel
theorem dL_law_378 : decode cL_law 378 = .ok (.iload_n 3, 1) := by decide +kernel
theorem dL_law_379 : decode cL_law 379 = .ok (.iconst 1, 1) := by decide +kernel
theorem dL_law_380 : decode cL_law 380 = .ok (.iadd, 1) := by decide +kernel
theorem dL_law_381 : decode cL_law 381 = .ok (.iaload, 1) := by decide +kernel
theorem dL_law_382 : decode cL_law 382 = .ok (.aload_n 0, 1) := by decide +kernel
theorem dL_law_383 : decode cL_law 383 = .ok (.iload_n 3, 1) := by decide +kernel
theorem dL_law_384 : decode cL_law 384 = .ok (.iconst 2, 1) := by decide +kernel
theorem dL_law_385 : decode cL_law 385 = .ok (.iadd, 1) := by decide +kernel
theorem dL_law_386 : decode cL_law 386 = .ok (.iaload, 1) := by decide +kernel
theorem dL_law_387 : decode cL_law 387 = .ok (.invokevirtual 44, 3) := by decide +kernel
theorem dL_law_390 : decode cL_law 390 = .ok (.if_icmp .eq 466, 3) := by decide +kernel
theorem dL_law_393 : decode cL_law 393 = .ok (.iconst 0, 1) := by decide +kernel
theorem dL_law_394 : decode cL_law 394 = .ok (.ireturn, 1) := by decide +kernel
theorem dL_law_395 : decode cL_law 395 = .ok (.aload_n 1, 1) := by decide +kernel
theorem dL_law_396 : decode cL_law 396 = .ok (.aload_n 0, 1) := by decide +kernel
theorem dL_law_397 : decode cL_law 397 = .ok (.iload_n 3, 1) := by decide +kernel
theorem dL_law_398 : decode cL_law 398 = .ok (.iconst 1, 1) := by decide +kernel
theorem dL_law_399 : decode cL_law 399 = .ok (.iadd, 1) := by decide +kernel
theorem dL_law_400 : decode cL_law 400 = .ok (.iaload, 1) := by decide +kernel
theorem dL_law_401 : decode cL_law 401 = .ok (.aload_n 0, 1) := by decide +kernel
theorem dL_law_402 : decode cL_law 402 = .ok (.iload_n 3, 1) := by decide +kernel
theorem dL_law_403 : decode cL_law 403 = .ok (.iconst 2, 1) := by decide +kernel
theorem dL_law_404 : decode cL_law 404 = .ok (.iadd, 1) := by decide +kernel
theorem dL_law_405 : decode cL_law 405 = .ok (.iaload, 1) := by decide +kernel
theorem dL_law_406 : decode cL_law 406 = .ok (.invokevirtual 45, 3) := by decide +kernel
theorem dL_law_409 : decode cL_law 409 = .ok (.aload_n 2, 1) := by decide +kernel
theorem dL_law_410 : decode cL_law 410 = .ok (.aload_n 0, 1) := by decide +kernel
theorem dL_law_411 : decode cL_law 411 = .ok (.iload_n 3, 1) := by decide +kernel
theorem dL_law_412 : decode cL_law 412 = .ok (.iconst 1, 1) := by decide +kernel
theorem dL_law_413 : decode cL_law 413 = .ok (.iadd, 1) := by decide +kernel
theorem dL_law_414 : decode cL_law 414 = .ok (.iaload, 1) := by decide +kernel
theorem dL_law_415 : decode cL_law 415 = .ok (.aload_n 0, 1) := by decide +kernel
theorem dL_law_416 : decode cL_law 416 = .ok (.iload_n 3, 1) := by decide +kernel
theorem dL_law_417 : decode cL_law 417 = .ok (.iconst 2, 1) := by decide +kernel
theorem dL_law_418 : decode cL_law 418 = .ok (.iadd, 1) := by decide +kernel
theorem dL_law_419 : decode cL_law 419 = .ok (.iaload, 1) := by decide +kernel
theorem dL_law_420 : decode cL_law 420 = .ok (.invokevirtual 48, 3) := by decide +kernel
theorem dL_law_423 : decode cL_law 423 = .ok (.if_icmp .eq 433, 3) := by decide +kernel
theorem dL_law_426 : decode cL_law 426 = .ok (.iconst 0, 1) := by decide +kernel
theorem dL_law_427 : decode cL_law 427 = .ok (.ireturn, 1) := by decide +kernel
theorem dL_law_428 : decode cL_law 428 = .ok (.aload_n 1, 1) := by decide +kernel
theorem dL_law_429 : decode cL_law 429 = .ok (.aload_n 0, 1) := by decide +kernel
theorem dL_law_430 : decode cL_law 430 = .ok (.iload_n 3, 1) := by decide +kernel
theorem dL_law_431 : decode cL_law 431 = .ok (.iconst 1, 1) := by decide +kernel
theorem dL_law_432 : decode cL_law 432 = .ok (.iadd, 1) := by decide +kernel
theorem dL_law_433 : decode cL_law 433 = .ok (.iaload, 1) := by decide +kernel
theorem dL_law_434 : decode cL_law 434 = .ok (.aload_n 0, 1) := by decide +kernel
theorem dL_law_435 : decode cL_law 435 = .ok (.iload_n 3, 1) := by decide +kernel
theorem dL_law_436 : decode cL_law 436 = .ok (.iconst 2, 1) := by decide +kernel
theorem dL_law_437 : decode cL_law 437 = .ok (.iadd, 1) := by decide +kernel
theorem dL_law_438 : decode cL_law 438 = .ok (.iaload, 1) := by decide +kernel
theorem dL_law_439 : decode cL_law 439 = .ok (.invokevirtual 49, 3) := by decide +kernel
theorem dL_law_442 : decode cL_law 442 = .ok (.aload_n 2, 1) := by decide +kernel
theorem dL_law_443 : decode cL_law 443 = .ok (.aload_n 0, 1) := by decide +kernel
theorem dL_law_444 : decode cL_law 444 = .ok (.iload_n 3, 1) := by decide +kernel
theorem dL_law_445 : decode cL_law 445 = .ok (.iconst 1, 1) := by decide +kernel
theorem dL_law_446 : decode cL_law 446 = .ok (.iadd, 1) := by decide +kernel
theorem dL_law_447 : decode cL_law 447 = .ok (.iaload, 1) := by decide +kernel
theorem dL_law_448 : decode cL_law 448 = .ok (.aload_n 0, 1) := by decide +kernel
theorem dL_law_449 : decode cL_law 449 = .ok (.iload_n 3, 1) := by decide +kernel
theorem dL_law_450 : decode cL_law 450 = .ok (.iconst 2, 1) := by decide +kernel
theorem dL_law_451 : decode cL_law 451 = .ok (.iadd, 1) := by decide +kernel
theorem dL_law_452 : decode cL_law 452 = .ok (.iaload, 1) := by decide +kernel
theorem dL_law_453 : decode cL_law 453 = .ok (.invokevirtual 52, 3) := by decide +kernel
theorem dL_law_456 : decode cL_law 456 = .ok (.if_icmp .eq 400, 3) := by decide +kernel
theorem dL_law_459 : decode cL_law 459 = .ok (.iconst 0, 1) := by decide +kernel
theorem dL_law_460 : decode cL_law 460 = .ok (.ireturn, 1) := by decide +kernel
theorem dL_law_461 : decode cL_law 461 = .ok (.aload_n 1, 1) := by decide +kernel
theorem dL_law_462 : decode cL_law 462 = .ok (.aload_n 0, 1) := by decide +kernel
theorem dL_law_463 : decode cL_law 463 = .ok (.iload_n 3, 1) := by decide +kernel
theorem dL_law_464 : decode cL_law 464 = .ok (.iconst 1, 1) := by decide +kernel
theorem dL_law_465 : decode cL_law 465 = .ok (.iadd, 1) := by decide +kernel
theorem dL_law_466 : decode cL_law 466 = .ok (.iaload, 1) := by decide +kernel
theorem dL_law_467 : decode cL_law 467 = .ok (.invokevirtual 53, 3) := by decide +kernel
theorem dL_law_470 : decode cL_law 470 = .ok (.aload_n 2, 1) := by decide +kernel
theorem dL_law_471 : decode cL_law 471 = .ok (.aload_n 0, 1) := by decide +kernel
theorem dL_law_472 : decode cL_law 472 = .ok (.iload_n 3, 1) := by decide +kernel
theorem dL_law_473 : decode cL_law 473 = .ok (.iconst 1, 1) := by decide +kernel
theorem dL_law_474 : decode cL_law 474 = .ok (.iadd, 1) := by decide +kernel
theorem dL_law_475 : decode cL_law 475 = .ok (.iaload, 1) := by decide +kernel
theorem dL_law_476 : decode cL_law 476 = .ok (.invokevirtual 56, 3) := by decide +kernel
theorem dL_law_479 : decode cL_law 479 = .ok (.if_icmp .eq 377, 3) := by decide +kernel
theorem dL_law_482 : decode cL_law 482 = .ok (.iconst 0, 1) := by decide +kernel
theorem dL_law_483 : decode cL_law 483 = .ok (.ireturn, 1) := by decide +kernel
theorem dL_law_484 : decode cL_law 484 = .ok (.aload_n 1, 1) := by decide +kernel
theorem dL_law_485 : decode cL_law 485 = .ok (.aload_n 0, 1) := by decide +kernel
theorem dL_law_486 : decode cL_law 486 = .ok (.iload_n 3, 1) := by decide +kernel
theorem dL_law_487 : decode cL_law 487 = .ok (.iconst 1, 1) := by decide +kernel
theorem dL_law_488 : decode cL_law 488 = .ok (.iadd, 1) := by decide +kernel
theorem dL_law_489 : decode cL_law 489 = .ok (.iaload, 1) := by decide +kernel
theorem dL_law_490 : decode cL_law 490 = .ok (.invokevirtual 57, 3) := by decide +kernel
theorem dL_law_493 : decode cL_law 493 = .ok (.aload_n 2, 1) := by decide +kernel
theorem dL_law_494 : decode cL_law 494 = .ok (.aload_n 0, 1) := by decide +kernel
theorem dL_law_495 : decode cL_law 495 = .ok (.iload_n 3, 1) := by decide +kernel
theorem dL_law_496 : decode cL_law 496 = .ok (.iconst 1, 1) := by decide +kernel
theorem dL_law_497 : decode cL_law 497 = .ok (.iadd, 1) := by decide +kernel
theorem dL_law_498 : decode cL_law 498 = .ok (.iaload, 1) := by decide +kernel
theorem dL_law_499 : decode cL_law 499 = .ok (.invokevirtual 60, 3) := by decide +kernel
theorem dL_law_502 : decode cL_law 502 = .ok (.if_icmp .eq 354, 3) := by decide +kernel
theorem dL_law_505 : decode cL_law 505 = .ok (.iconst 0, 1) := by decide +kernel
theorem dL_law_506 : decode cL_law 506 = .ok (.ireturn, 1) := by decide +kernel
theorem dL_law_507 : decode cL_law 507 = .ok (.aload_n 1, 1) := by decide +kernel
theorem dL_law_508 : decode cL_law 508 = .ok (.aload_n 0, 1) := by decide +kernel
theorem dL_law_509 : decode cL_law 509 = .ok (.iload_n 3, 1) := by decide +kernel
theorem dL_law_510 : decode cL_law 510 = .ok (.iconst 1, 1) := by decide +kernel
theorem dL_law_511 : decode cL_law 511 = .ok (.iadd, 1) := by decide +kernel
theorem dL_law_512 : decode cL_law 512 = .ok (.iaload, 1) := by decide +kernel
theorem dL_law_513 : decode cL_law 513 = .ok (.invokevirtual 61, 3) := by decide +kernel
theorem dL_law_516 : decode cL_law 516 = .ok (.aload_n 2, 1) := by decide +kernel
theorem dL_law_517 : decode cL_law 517 = .ok (.aload_n 0, 1) := by decide +kernel
theorem dL_law_518 : decode cL_law 518 = .ok (.iload_n 3, 1) := by decide +kernel
theorem dL_law_519 : decode cL_law 519 = .ok (.iconst 1, 1) := by decide +kernel
theorem dL_law_520 : decode cL_law 520 = .ok (.iadd, 1) := by decide +kernel
theorem dL_law_521 : decode cL_law 521 = .ok (.iaload, 1) := by decide +kernel
theorem dL_law_522 : decode cL_law 522 = .ok (.invokevirtual 64, 3) := by decide +kernel
theorem dL_law_525 : decode cL_law 525 = .ok (.if_icmp .eq 331, 3) := by decide +kernel
theorem dL_law_528 : decode cL_law 528 = .ok (.iconst 0, 1) := by decide +kernel
theorem dL_law_529 : decode cL_law 529 = .ok (.ireturn, 1) := by decide +kernel
theorem dL_law_530 : decode cL_law 530 = .ok (.aload_n 1, 1) := by decide +kernel
theorem dL_law_531 : decode cL_law 531 = .ok (.aload_n 0, 1) := by decide +kernel
theorem dL_law_532 : decode cL_law 532 = .ok (.iload_n 3, 1) := by decide +kernel
theorem dL_law_533 : decode cL_law 533 = .ok (.iconst 1, 1) := by decide +kernel
theorem dL_law_534 : decode cL_law 534 = .ok (.iadd, 1) := by decide +kernel
theorem dL_law_535 : decode cL_law 535 = .ok (.iaload, 1) := by decide +kernel
theorem dL_law_536 : decode cL_law 536 = .ok (.aload_n 0, 1) := by decide +kernel
theorem dL_law_537 : decode cL_law 537 = .ok (.iload_n 3, 1) := by decide +kernel
theorem dL_law_538 : decode cL_law 538 = .ok (.iconst 2, 1) := by decide +kernel
theorem dL_law_539 : decode cL_law 539 = .ok (.iadd, 1) := by decide +kernel
theorem dL_law_540 : decode cL_law 540 = .ok (.iaload, 1) := by decide +kernel
theorem dL_law_541 : decode cL_law 541 = .ok (.invokevirtual 65, 3) := by decide +kernel
theorem dL_law_544 : decode cL_law 544 = .ok (.aload_n 2, 1) := by decide +kernel
theorem dL_law_545 : decode cL_law 545 = .ok (.aload_n 0, 1) := by decide +kernel
theorem dL_law_546 : decode cL_law 546 = .ok (.iload_n 3, 1) := by decide +kernel
theorem dL_law_547 : decode cL_law 547 = .ok (.iconst 1, 1) := by decide +kernel
theorem dL_law_548 : decode cL_law 548 = .ok (.iadd, 1) := by decide +kernel
theorem dL_law_549 : decode cL_law 549 = .ok (.iaload, 1) := by decide +kernel
theorem dL_law_550 : decode cL_law 550 = .ok (.aload_n 0, 1) := by decide +kernel
theorem dL_law_551 : decode cL_law 551 = .ok (.iload_n 3, 1) := by decide +kernel
theorem dL_law_552 : decode cL_law 552 = .ok (.iconst 2, 1) := by decide +kernel
theorem dL_law_553 : decode cL_law 553 = .ok (.iadd, 1) := by decide +kernel
theorem dL_law_554 : decode cL_law 554 = .ok (.iaload, 1) := by decide +kernel
theorem dL_law_555 : decode cL_law 555 = .ok (.invokevirtual 68, 3) := by decide +kernel
theorem dL_law_558 : decode cL_law 558 = .ok (.if_icmp .eq 298, 3) := by decide +kernel
theorem dL_law_561 : decode cL_law 561 = .ok (.iconst 0, 1) := by decide +kernel
theorem dL_law_562 : decode cL_law 562 = .ok (.ireturn, 1) := by decide +kernel
theorem dL_law_563 : decode cL_law 563 = .ok (.aload_n 1, 1) := by decide +kernel
theorem dL_law_564 : decode cL_law 564 = .ok (.aload_n 0, 1) := by decide +kernel
theorem dL_law_565 : decode cL_law 565 = .ok (.iload_n 3, 1) := by decide +kernel
theorem dL_law_566 : decode cL_law 566 = .ok (.iconst 1, 1) := by decide +kernel
theorem dL_law_567 : decode cL_law 567 = .ok (.iadd, 1) := by decide +kernel
theorem dL_law_568 : decode cL_law 568 = .ok (.iaload, 1) := by decide +kernel
theorem dL_law_569 : decode cL_law 569 = .ok (.invokevirtual 69, 3) := by decide +kernel
theorem dL_law_572 : decode cL_law 572 = .ok (.aload_n 2, 1) := by decide +kernel
theorem dL_law_573 : decode cL_law 573 = .ok (.aload_n 0, 1) := by decide +kernel
theorem dL_law_574 : decode cL_law 574 = .ok (.iload_n 3, 1) := by decide +kernel
theorem dL_law_575 : decode cL_law 575 = .ok (.iconst 1, 1) := by decide +kernel
theorem dL_law_576 : decode cL_law 576 = .ok (.iadd, 1) := by decide +kernel
theorem dL_law_577 : decode cL_law 577 = .ok (.iaload, 1) := by decide +kernel
theorem dL_law_578 : decode cL_law 578 = .ok (.invokevirtual 72, 3) := by decide +kernel
theorem dL_law_581 : decode cL_law 581 = .ok (.if_icmp .eq 275, 3) := by decide +kernel
theorem dL_law_584 : decode cL_law 584 = .ok (.iconst 0, 1) := by decide +kernel
theorem dL_law_585 : decode cL_law 585 = .ok (.ireturn, 1) := by decide +kernel
theorem dL_law_586 : decode cL_law 586 = .ok (.aload_n 1, 1) := by decide +kernel
theorem dL_law_587 : decode cL_law 587 = .ok (.aload_n 0, 1) := by decide +kernel
theorem dL_law_588 : decode cL_law 588 = .ok (.iload_n 3, 1) := by decide +kernel
theorem dL_law_589 : decode cL_law 589 = .ok (.iconst 1, 1) := by decide +kernel
theorem dL_law_590 : decode cL_law 590 = .ok (.iadd, 1) := by decide +kernel
theorem dL_law_591 : decode cL_law 591 = .ok (.iaload, 1) := by decide +kernel
theorem dL_law_592 : decode cL_law 592 = .ok (.aload_n 0, 1) := by decide +kernel
theorem dL_law_593 : decode cL_law 593 = .ok (.iload_n 3, 1) := by decide +kernel
theorem dL_law_594 : decode cL_law 594 = .ok (.iconst 2, 1) := by decide +kernel
theorem dL_law_595 : decode cL_law 595 = .ok (.iadd, 1) := by decide +kernel
theorem dL_law_596 : decode cL_law 596 = .ok (.iaload, 1) := by decide +kernel
theorem dL_law_597 : decode cL_law 597 = .ok (.invokevirtual 73, 3) := by decide +kernel
theorem dL_law_600 : decode cL_law 600 = .ok (.aload_n 2, 1) := by decide +kernel
theorem dL_law_601 : decode cL_law 601 = .ok (.aload_n 0, 1) := by decide +kernel
theorem dL_law_602 : decode cL_law 602 = .ok (.iload_n 3, 1) := by decide +kernel
theorem dL_law_603 : decode cL_law 603 = .ok (.iconst 1, 1) := by decide +kernel
theorem dL_law_604 : decode cL_law 604 = .ok (.iadd, 1) := by decide +kernel
theorem dL_law_605 : decode cL_law 605 = .ok (.iaload, 1) := by decide +kernel
theorem dL_law_606 : decode cL_law 606 = .ok (.aload_n 0, 1) := by decide +kernel
theorem dL_law_607 : decode cL_law 607 = .ok (.iload_n 3, 1) := by decide +kernel
theorem dL_law_608 : decode cL_law 608 = .ok (.iconst 2, 1) := by decide +kernel
theorem dL_law_609 : decode cL_law 609 = .ok (.iadd, 1) := by decide +kernel
theorem dL_law_610 : decode cL_law 610 = .ok (.iaload, 1) := by decide +kernel
theorem dL_law_611 : decode cL_law 611 = .ok (.invokevirtual 76, 3) := by decide +kernel
theorem dL_law_614 : decode cL_law 614 = .ok (.if_icmp .eq 242, 3) := by decide +kernel
theorem dL_law_617 : decode cL_law 617 = .ok (.iconst 0, 1) := by decide +kernel
theorem dL_law_618 : decode cL_law 618 = .ok (.ireturn, 1) := by decide +kernel
theorem dL_law_619 : decode cL_law 619 = .ok (.aload_n 1, 1) := by decide +kernel
theorem dL_law_620 : decode cL_law 620 = .ok (.aload_n 0, 1) := by decide +kernel
theorem dL_law_621 : decode cL_law 621 = .ok (.iload_n 3, 1) := by decide +kernel
theorem dL_law_622 : decode cL_law 622 = .ok (.iconst 1, 1) := by decide +kernel
theorem dL_law_623 : decode cL_law 623 = .ok (.iadd, 1) := by decide +kernel
theorem dL_law_624 : decode cL_law 624 = .ok (.iaload, 1) := by decide +kernel
theorem dL_law_625 : decode cL_law 625 = .ok (.aload_n 0, 1) := by decide +kernel
theorem dL_law_626 : decode cL_law 626 = .ok (.iload_n 3, 1) := by decide +kernel
theorem dL_law_627 : decode cL_law 627 = .ok (.iconst 2, 1) := by decide +kernel
theorem dL_law_628 : decode cL_law 628 = .ok (.iadd, 1) := by decide +kernel
theorem dL_law_629 : decode cL_law 629 = .ok (.iaload, 1) := by decide +kernel
theorem dL_law_630 : decode cL_law 630 = .ok (.invokevirtual 77, 3) := by decide +kernel
theorem dL_law_633 : decode cL_law 633 = .ok (.aload_n 2, 1) := by decide +kernel
theorem dL_law_634 : decode cL_law 634 = .ok (.aload_n 0, 1) := by decide +kernel
theorem dL_law_635 : decode cL_law 635 = .ok (.iload_n 3, 1) := by decide +kernel
theorem dL_law_636 : decode cL_law 636 = .ok (.iconst 1, 1) := by decide +kernel
theorem dL_law_637 : decode cL_law 637 = .ok (.iadd, 1) := by decide +kernel
theorem dL_law_638 : decode cL_law 638 = .ok (.iaload, 1) := by decide +kernel
theorem dL_law_639 : decode cL_law 639 = .ok (.aload_n 0, 1) := by decide +kernel
theorem dL_law_640 : decode cL_law 640 = .ok (.iload_n 3, 1) := by decide +kernel
theorem dL_law_641 : decode cL_law 641 = .ok (.iconst 2, 1) := by decide +kernel
theorem dL_law_642 : decode cL_law 642 = .ok (.iadd, 1) := by decide +kernel
theorem dL_law_643 : decode cL_law 643 = .ok (.iaload, 1) := by decide +kernel
theorem dL_law_644 : decode cL_law 644 = .ok (.invokevirtual 80, 3) := by decide +kernel
theorem dL_law_647 : decode cL_law 647 = .ok (.if_icmp .eq 209, 3) := by decide +kernel
theorem dL_law_650 : decode cL_law 650 = .ok (.iconst 0, 1) := by decide +kernel
theorem dL_law_651 : decode cL_law 651 = .ok (.ireturn, 1) := by decide +kernel
theorem dL_law_652 : decode cL_law 652 = .ok (.aload_n 1, 1) := by decide +kernel
theorem dL_law_653 : decode cL_law 653 = .ok (.aload_n 0, 1) := by decide +kernel
theorem dL_law_654 : decode cL_law 654 = .ok (.iload_n 3, 1) := by decide +kernel
theorem dL_law_655 : decode cL_law 655 = .ok (.iconst 1, 1) := by decide +kernel
theorem dL_law_656 : decode cL_law 656 = .ok (.iadd, 1) := by decide +kernel
theorem dL_law_657 : decode cL_law 657 = .ok (.iaload, 1) := by decide +kernel
theorem dL_law_658 : decode cL_law 658 = .ok (.aload_n 0, 1) := by decide +kernel
theorem dL_law_659 : decode cL_law 659 = .ok (.iload_n 3, 1) := by decide +kernel
theorem dL_law_660 : decode cL_law 660 = .ok (.iconst 2, 1) := by decide +kernel
theorem dL_law_661 : decode cL_law 661 = .ok (.iadd, 1) := by decide +kernel
theorem dL_law_662 : decode cL_law 662 = .ok (.iaload, 1) := by decide +kernel
theorem dL_law_663 : decode cL_law 663 = .ok (.invokevirtual 81, 3) := by decide +kernel
theorem dL_law_666 : decode cL_law 666 = .ok (.aload_n 2, 1) := by decide +kernel
theorem dL_law_667 : decode cL_law 667 = .ok (.aload_n 0, 1) := by decide +kernel
theorem dL_law_668 : decode cL_law 668 = .ok (.iload_n 3, 1) := by decide +kernel
theorem dL_law_669 : decode cL_law 669 = .ok (.iconst 1, 1) := by decide +kernel
theorem dL_law_670 : decode cL_law 670 = .ok (.iadd, 1) := by decide +kernel
theorem dL_law_671 : decode cL_law 671 = .ok (.iaload, 1) := by decide +kernel
theorem dL_law_672 : decode cL_law 672 = .ok (.aload_n 0, 1) := by decide +kernel
theorem dL_law_673 : decode cL_law 673 = .ok (.iload_n 3, 1) := by decide +kernel
theorem dL_law_674 : decode cL_law 674 = .ok (.iconst 2, 1) := by decide +kernel
theorem dL_law_675 : decode cL_law 675 = .ok (.iadd, 1) := by decide +kernel
theorem dL_law_676 : decode cL_law 676 = .ok (.iaload, 1) := by decide +kernel
theorem dL_law_677 : decode cL_law 677 = .ok (.invokevirtual 84, 3) := by decide +kernel
theorem dL_law_680 : decode cL_law 680 = .ok (.if_icmp .eq 176, 3) := by decide +kernel
theorem dL_law_683 : decode cL_law 683 = .ok (.iconst 0, 1) := by decide +kernel
theorem dL_law_684 : decode cL_law 684 = .ok (.ireturn, 1) := by decide +kernel
theorem dL_law_685 : decode cL_law 685 = .ok (.aload_n 1, 1) := by decide +kernel
theorem dL_law_686 : decode cL_law 686 = .ok (.aload_n 0, 1) := by decide +kernel
theorem dL_law_687 : decode cL_law 687 = .ok (.iload_n 3, 1) := by decide +kernel
theorem dL_law_688 : decode cL_law 688 = .ok (.iconst 1, 1) := by decide +kernel
theorem dL_law_689 : decode cL_law 689 = .ok (.iadd, 1) := by decide +kernel
theorem dL_law_690 : decode cL_law 690 = .ok (.iaload, 1) := by decide +kernel
theorem dL_law_691 : decode cL_law 691 = .ok (.aload_n 0, 1) := by decide +kernel
theorem dL_law_692 : decode cL_law 692 = .ok (.iload_n 3, 1) := by decide +kernel
theorem dL_law_693 : decode cL_law 693 = .ok (.iconst 2, 1) := by decide +kernel
theorem dL_law_694 : decode cL_law 694 = .ok (.iadd, 1) := by decide +kernel
theorem dL_law_695 : decode cL_law 695 = .ok (.iaload, 1) := by decide +kernel
theorem dL_law_696 : decode cL_law 696 = .ok (.invokevirtual 85, 3) := by decide +kernel
theorem dL_law_699 : decode cL_law 699 = .ok (.aload_n 2, 1) := by decide +kernel
theorem dL_law_700 : decode cL_law 700 = .ok (.aload_n 0, 1) := by decide +kernel
theorem dL_law_701 : decode cL_law 701 = .ok (.iload_n 3, 1) := by decide +kernel
theorem dL_law_702 : decode cL_law 702 = .ok (.iconst 1, 1) := by decide +kernel
theorem dL_law_703 : decode cL_law 703 = .ok (.iadd, 1) := by decide +kernel
theorem dL_law_704 : decode cL_law 704 = .ok (.iaload, 1) := by decide +kernel
theorem dL_law_705 : decode cL_law 705 = .ok (.aload_n 0, 1) := by decide +kernel
theorem dL_law_706 : decode cL_law 706 = .ok (.iload_n 3, 1) := by decide +kernel
theorem dL_law_707 : decode cL_law 707 = .ok (.iconst 2, 1) := by decide +kernel
theorem dL_law_708 : decode cL_law 708 = .ok (.iadd, 1) := by decide +kernel
theorem dL_law_709 : decode cL_law 709 = .ok (.iaload, 1) := by decide +kernel
theorem dL_law_710 : decode cL_law 710 = .ok (.invokevirtual 88, 3) := by decide +kernel
theorem dL_law_713 : decode cL_law 713 = .ok (.if_icmp .eq 143, 3) := by decide +kernel
theorem dL_law_716 : decode cL_law 716 = .ok (.iconst 0, 1) := by decide +kernel
theorem dL_law_717 : decode cL_law 717 = .ok (.ireturn, 1) := by decide +kernel
theorem dL_law_718 : decode cL_law 718 = .ok (.aload_n 1, 1) := by decide +kernel
theorem dL_law_719 : decode cL_law 719 = .ok (.aload_n 0, 1) := by decide +kernel
theorem dL_law_720 : decode cL_law 720 = .ok (.iload_n 3, 1) := by decide +kernel
theorem dL_law_721 : decode cL_law 721 = .ok (.iconst 1, 1) := by decide +kernel
theorem dL_law_722 : decode cL_law 722 = .ok (.iadd, 1) := by decide +kernel
theorem dL_law_723 : decode cL_law 723 = .ok (.iaload, 1) := by decide +kernel
theorem dL_law_724 : decode cL_law 724 = .ok (.invokevirtual 89, 3) := by decide +kernel
theorem dL_law_727 : decode cL_law 727 = .ok (.aload_n 2, 1) := by decide +kernel
theorem dL_law_728 : decode cL_law 728 = .ok (.aload_n 0, 1) := by decide +kernel
theorem dL_law_729 : decode cL_law 729 = .ok (.iload_n 3, 1) := by decide +kernel
theorem dL_law_730 : decode cL_law 730 = .ok (.iconst 1, 1) := by decide +kernel
theorem dL_law_731 : decode cL_law 731 = .ok (.iadd, 1) := by decide +kernel
theorem dL_law_732 : decode cL_law 732 = .ok (.iaload, 1) := by decide +kernel
theorem dL_law_733 : decode cL_law 733 = .ok (.invokevirtual 92, 3) := by decide +kernel
theorem dL_law_736 : decode cL_law 736 = .ok (.if_icmp .eq 120, 3) := by decide +kernel
theorem dL_law_739 : decode cL_law 739 = .ok (.iconst 0, 1) := by decide +kernel
theorem dL_law_740 : decode cL_law 740 = .ok (.ireturn, 1) := by decide +kernel
theorem dL_law_741 : decode cL_law 741 = .ok (.aload_n 1, 1) := by decide +kernel
theorem dL_law_742 : decode cL_law 742 = .ok (.aload_n 0, 1) := by decide +kernel
theorem dL_law_743 : decode cL_law 743 = .ok (.iload_n 3, 1) := by decide +kernel
theorem dL_law_744 : decode cL_law 744 = .ok (.iconst 1, 1) := by decide +kernel
theorem dL_law_745 : decode cL_law 745 = .ok (.iadd, 1) := by decide +kernel
theorem dL_law_746 : decode cL_law 746 = .ok (.iaload, 1) := by decide +kernel
theorem dL_law_747 : decode cL_law 747 = .ok (.invokevirtual 93, 3) := by decide +kernel
theorem dL_law_750 : decode cL_law 750 = .ok (.aload_n 2, 1) := by decide +kernel
theorem dL_law_751 : decode cL_law 751 = .ok (.aload_n 0, 1) := by decide +kernel
theorem dL_law_752 : decode cL_law 752 = .ok (.iload_n 3, 1) := by decide +kernel
theorem dL_law_753 : decode cL_law 753 = .ok (.iconst 1, 1) := by decide +kernel
theorem dL_law_754 : decode cL_law 754 = .ok (.iadd, 1) := by decide +kernel
theorem dL_law_755 : decode cL_law 755 = .ok (.iaload, 1) := by decide +kernel
theorem dL_law_756 : decode cL_law 756 = .ok (.invokevirtual 96, 3) := by decide +kernel
theorem dL_law_759 : decode cL_law 759 = .ok (.if_icmp .eq 97, 3) := by decide +kernel
theorem dL_law_762 : decode cL_law 762 = .ok (.iconst 0, 1) := by decide +kernel
theorem dL_law_763 : decode cL_law 763 = .ok (.ireturn, 1) := by decide +kernel
theorem dL_law_764 : decode cL_law 764 = .ok (.aload_n 1, 1) := by decide +kernel
theorem dL_law_765 : decode cL_law 765 = .ok (.aload_n 0, 1) := by decide +kernel
theorem dL_law_766 : decode cL_law 766 = .ok (.iload_n 3, 1) := by decide +kernel
theorem dL_law_767 : decode cL_law 767 = .ok (.iconst 1, 1) := by decide +kernel
theorem dL_law_768 : decode cL_law 768 = .ok (.iadd, 1) := by decide +kernel
theorem dL_law_769 : decode cL_law 769 = .ok (.iaload, 1) := by decide +kernel
theorem dL_law_770 : decode cL_law 770 = .ok (.invokevirtual 97, 3) := by decide +kernel
theorem dL_law_773 : decode cL_law 773 = .ok (.aload_n 2, 1) := by decide +kernel
theorem dL_law_774 : decode cL_law 774 = .ok (.aload_n 0, 1) := by decide +kernel
theorem dL_law_775 : decode cL_law 775 = .ok (.iload_n 3, 1) := by decide +kernel
theorem dL_law_776 : decode cL_law 776 = .ok (.iconst 1, 1) := by decide +kernel
theorem dL_law_777 : decode cL_law 777 = .ok (.iadd, 1) := by decide +kernel
theorem dL_law_778 : decode cL_law 778 = .ok (.iaload, 1) := by decide +kernel
theorem dL_law_779 : decode cL_law 779 = .ok (.invokevirtual 100, 3) := by decide +kernel
theorem dL_law_782 : decode cL_law 782 = .ok (.if_icmp .eq 74, 3) := by decide +kernel
theorem dL_law_785 : decode cL_law 785 = .ok (.iconst 0, 1) := by decide +kernel
theorem dL_law_786 : decode cL_law 786 = .ok (.ireturn, 1) := by decide +kernel
theorem dL_law_787 : decode cL_law 787 = .ok (.aload_n 1, 1) := by decide +kernel
theorem dL_law_788 : decode cL_law 788 = .ok (.aload_n 0, 1) := by decide +kernel
theorem dL_law_789 : decode cL_law 789 = .ok (.iload_n 3, 1) := by decide +kernel
theorem dL_law_790 : decode cL_law 790 = .ok (.iconst 1, 1) := by decide +kernel
theorem dL_law_791 : decode cL_law 791 = .ok (.iadd, 1) := by decide +kernel
theorem dL_law_792 : decode cL_law 792 = .ok (.iaload, 1) := by decide +kernel
theorem dL_law_793 : decode cL_law 793 = .ok (.invokevirtual 101, 3) := by decide +kernel
theorem dL_law_796 : decode cL_law 796 = .ok (.aload_n 2, 1) := by decide +kernel
theorem dL_law_797 : decode cL_law 797 = .ok (.aload_n 0, 1) := by decide +kernel
theorem dL_law_798 : decode cL_law 798 = .ok (.iload_n 3, 1) := by decide +kernel
theorem dL_law_799 : decode cL_law 799 = .ok (.iconst 1, 1) := by decide +kernel
theorem dL_law_800 : decode cL_law 800 = .ok (.iadd, 1) := by decide +kernel
theorem dL_law_801 : decode cL_law 801 = .ok (.iaload, 1) := by decide +kernel
theorem dL_law_802 : decode cL_law 802 = .ok (.invokevirtual 104, 3) := by decide +kernel
theorem dL_law_805 : decode cL_law 805 = .ok (.if_icmp .eq 51, 3) := by decide +kernel
theorem dL_law_808 : decode cL_law 808 = .ok (.iconst 0, 1) := by decide +kernel
theorem dL_law_809 : decode cL_law 809 = .ok (.ireturn, 1) := by decide +kernel
theorem dL_law_810 : decode cL_law 810 = .ok (.aload_n 1, 1) := by decide +kernel
theorem dL_law_811 : decode cL_law 811 = .ok (.aload_n 0, 1) := by decide +kernel
theorem dL_law_812 : decode cL_law 812 = .ok (.iload_n 3, 1) := by decide +kernel
theorem dL_law_813 : decode cL_law 813 = .ok (.iconst 1, 1) := by decide +kernel
theorem dL_law_814 : decode cL_law 814 = .ok (.iadd, 1) := by decide +kernel
theorem dL_law_815 : decode cL_law 815 = .ok (.iaload, 1) := by decide +kernel
theorem dL_law_816 : decode cL_law 816 = .ok (.invokevirtual 105, 3) := by decide +kernel
theorem dL_law_819 : decode cL_law 819 = .ok (.aload_n 2, 1) := by decide +kernel
theorem dL_law_820 : decode cL_law 820 = .ok (.aload_n 0, 1) := by decide +kernel
theorem dL_law_821 : decode cL_law 821 = .ok (.iload_n 3, 1) := by decide +kernel
theorem dL_law_822 : decode cL_law 822 = .ok (.iconst 1, 1) := by decide +kernel
theorem dL_law_823 : decode cL_law 823 = .ok (.iadd, 1) := by decide +kernel
theorem dL_law_824 : decode cL_law 824 = .ok (.iaload, 1) := by decide +kernel
theorem dL_law_825 : decode cL_law 825 = .ok (.invokevirtual 108, 3) := by decide +kernel
theorem dL_law_828 : decode cL_law 828 = .ok (.if_icmp .eq 28, 3) := by decide +kernel
theorem dL_law_831 : decode cL_law 831 = .ok (.iconst 0, 1) := by decide +kernel
theorem dL_law_832 : decode cL_law 832 = .ok (.ireturn, 1) := by decide +kernel
theorem dL_law_833 : decode cL_law 833 = .ok (.aload_n 1, 1) := by decide +kernel
theorem dL_law_834 : decode cL_law 834 = .ok (.aload_n 0, 1) := by decide +kernel
theorem dL_law_835 : decode cL_law 835 = .ok (.iload_n 3, 1) := by decide +kernel
theorem dL_law_836 : decode cL_law 836 = .ok (.iconst 1, 1) := by decide +kernel
theorem dL_law_837 : decode cL_law 837 = .ok (.iadd, 1) := by decide +kernel
theorem dL_law_838 : decode cL_law 838 = .ok (.iaload, 1) := by decide +kernel
theorem dL_law_839 : decode cL_law 839 = .ok (.invokevirtual 109, 3) := by decide +kernel
theorem dL_law_842 : decode cL_law 842 = .ok (.aload_n 2, 1) := by decide +kernel
theorem dL_law_843 : decode cL_law 843 = .ok (.aload_n 0, 1) := by decide +kernel
theorem dL_law_844 : decode cL_law 844 = .ok (.iload_n 3, 1) := by decide +kernel
theorem dL_law_845 : decode cL_law 845 = .ok (.iconst 1, 1) := by decide +kernel
theorem dL_law_846 : decode cL_law 846 = .ok (.iadd, 1) := by decide +kernel
theorem dL_law_847 : decode cL_law 847 = .ok (.iaload, 1) := by decide +kernel
theorem dL_law_848 : decode cL_law 848 = .ok (.invokevirtual 112, 3) := by decide +kernel
theorem dL_law_851 : decode cL_law 851 = .ok (.if_icmp .eq 5, 3) := by decide +kernel
theorem dL_law_854 : decode cL_law 854 = .ok (.iconst 0, 1) := by decide +kernel
theorem dL_law_855 : decode cL_law 855 = .ok (.ireturn, 1) := by decide +kernel
theorem dL_law_856 : decode cL_law 856 = .ok (.iinc 3 5, 3) := by decide +kernel
theorem dL_law_859 : decode cL_law 859 = .ok (.goto (-841), 3) := by decide +kernel
theorem dL_law_862 : decode cL_law 862 = .ok (.iconst 1, 1) := by decide +kernel
theorem dL_law_863 : decode cL_law 863 = .ok (.ireturn, 1) := by decide +kernel
end
section
/-! numbers: an int of the machine is the image of a whole number -/
abbrev ST : Type := Nat → Int → Int
def iZ (z : Int) : Int32 := Int32.ofInt z
def iv (z : Int) : Value := .int (iZ z)
abbrev inR (z : Int) : Prop := -2147483648 ≤ z ∧ z < 2147483648
theorem iZ_toInt {z : Int} (h : inR z) : (iZ z).toInt = z := Int32.toInt_ofInt_of_le (by have := h.1; omega) (by have := h.2; omega)
theorem iZ_of (x : Int32) : iZ x.toInt = x := Int32.ofInt_toInt x
theorem iZ_in (x : Int32) : inR x.toInt := ⟨by have := Int32.le_toInt x; omega, by have := Int32.toInt_lt x; omega⟩
theorem iZ_add (a b : Int) : iZ a + iZ b = iZ (a + b) := (Int32.ofInt_add a b).symm
theorem iZ_sub (a b : Int) : iZ a - iZ b = iZ (a - b) := (Int32.ofInt_sub a b).symm
theorem iZ_mul (a b : Int) : iZ a * iZ b = iZ (a * b) := (Int32.ofInt_mul a b).symm
theorem iZ_neg (a : Int) : - iZ a = iZ (-a) := (Int32.ofInt_neg a).symm
theorem iZ_eq {a b : Int} (ha : inR a) (hb : inR b) : iZ a = iZ b ↔ a = b := by
  rw [← Int32.toInt_inj, iZ_toInt ha, iZ_toInt hb]
theorem iZ_lt {a b : Int} (ha : inR a) (hb : inR b) : iZ a < iZ b ↔ a < b := by
  rw [Int32.lt_iff_toInt_lt, iZ_toInt ha, iZ_toInt hb]
theorem iZ_le {a b : Int} (ha : inR a) (hb : inR b) : iZ a ≤ iZ b ↔ a ≤ b := by
  rw [Int32.le_iff_toInt_le, iZ_toInt ha, iZ_toInt hb]
theorem iZ_0 : (0 : Int32) = iZ 0 := by decide +kernel
theorem in0 : inR 0 := by decide
theorem iZ_nat {z : Int} (h : inR z) (h0 : 0 ≤ z) : ((iZ z).toNatClampNeg : Int) = z := by
  show ((iZ z).toInt.toNat : Int) = z
  rw [iZ_toInt h]; omega
theorem iZ_vpin {z : Int} {n : Nat} (h0 : 0 ≤ z) (h1 : z < n) (hn : n < 2147483648) : vp_in (iZ z) n := by
  have hz : inR z := ⟨by omega, by omega⟩
  refine vp_in_iff.mpr ?_
  rw [iZ_toInt hz]
  exact ⟨h0, h1⟩
theorem iZ_nI (n : Nat) : nI n = iZ n := Int32.ofInt_eq_ofNat.symm
def iand (x y : Int) : Int := (iZ x &&& iZ y).toInt
def ixor (x y : Int) : Int := (iZ x ^^^ iZ y).toInt
def ior (x y : Int) : Int := (iZ x ||| iZ y).toInt
theorem iand_Z (x y : Int) : iZ x &&& iZ y = iZ (iand x y) := (iZ_of _).symm
theorem ixor_Z (x y : Int) : iZ x ^^^ iZ y = iZ (ixor x y) := (iZ_of _).symm
theorem ior_Z (x y : Int) : iZ x ||| iZ y = iZ (ior x y) := (iZ_of _).symm
theorem idiv_Z {x y : Int} (hx : inR x) (hy : inR y) (h : y ≠ -1) : iZ x / iZ y = iZ (x.tdiv y) := by
  apply Int32.toInt_inj.mp
  have h1 : iZ y ≠ -1 := fun q => h (by have := congrArg Int32.toInt q; rw [iZ_toInt hy] at this; exact this)
  rw [Int32.toInt_div_of_ne_right _ _ h1, iZ_toInt hx, iZ_toInt hy]
  have h2 : (iZ x / iZ y).toInt = x.tdiv y := by rw [Int32.toInt_div_of_ne_right _ _ h1, iZ_toInt hx, iZ_toInt hy]
  rw [iZ_toInt (by rw [← h2]; exact iZ_in _)]
/-! the world: cells by number -/
def up2 (σ : ST) (c : Nat) (k z : Int) : ST := fun c' => if c' = c then (fun j => if j = k then z else σ c j) else σ c'
theorem up2_ne {σ : ST} {c : Nat} {k z : Int} {c' : Nat} (h : c' ≠ c) : up2 σ c k z c' = σ c' := if_neg h
theorem up2_c {σ : ST} {c : Nat} {k z : Int} : up2 σ c k z c = (fun j => if j = k then z else σ c j) := if_pos rfl
theorem up2_self {σ : ST} {c : Nat} {k z : Int} : up2 σ c k z c k = z := by rw [up2_c]; exact if_pos rfl
theorem up2_at {σ : ST} {c : Nat} {k z j : Int} (h : j ≠ k) : up2 σ c k z c j = σ c j := by rw [up2_c]; exact if_neg h
theorem up2_in {σ : ST} {c : Nat} {k z : Int} (h : ∀ c j, inR (σ c j)) (hz : inR z) : ∀ c' j, inR (up2 σ c k z c' j) := by
  intro c' j
  unfold up2
  by_cases h1 : c' = c
  · rw [if_pos h1]
    by_cases h2 : j = k
    · simp only [h2, if_true]; exact hz
    · simp only [h2, if_false]; exact h c j
  · rw [if_neg h1]; exact h c' j
def cF (D : va_G) (a : Nat → Nat) (n : Nat) (c : Nat) (f : Int → Int) : va_E := match c with
  | 0 => .inr (5, [.ref (a 1), .ref (a 2), .ref (a 3), .ref (a 4), .ref (a 5), iv (f 5), iv (f 6), iv (f 7), iv (f 8), iv (f 9)])
  | 1 => .inr (2, [.ref (a 6), .ref (a 7), .ref (a 8), iv (f 3), iv (f 4)])
  | 2 => .inr (1, [.ref (a 1), .ref (a 9), .ref (a 10), iv (f 3), iv (f 4), iv (f 5)])
  | 3 => .inr (0, [.ref (a 2), .ref (a 11), .ref (a 12), .ref (a 13), .ref (a 14), .ref (a 15), .ref (a 16), iv (f 7), iv (f 8), iv (f 9)])
  | 4 => .inr (3, [.ref (a 17), iv (f 1)])
  | 5 => .inl (D.1 7, 6, .inl (fun j => iZ (f j)))
  | 6 => .inl (D.1 7, 40, .inl (fun j => iZ (f j)))
  | 7 => .inl (D.1 7, 40, .inl (fun j => iZ (f j)))
  | 8 => .inl (D.1 9, 6, .inr (.inr (.inr (.inr (fun j => if j < n then some (a (38 + 5 * j)) else none)))))
  | 9 => .inl (D.1 7, 40, .inl (fun j => iZ (f j)))
  | 10 => .inl (D.1 7, 40, .inl (fun j => iZ (f j)))
  | 11 => .inl (D.1 7, 40, .inl (fun j => iZ (f j)))
  | 12 => .inl (D.1 7, 40, .inl (fun j => iZ (f j)))
  | 13 => .inl (D.1 7, 40, .inl (fun j => iZ (f j)))
  | 14 => .inl (D.1 7, 41, .inl (fun j => iZ (f j)))
  | 15 => .inl (D.1 7, 41, .inl (fun j => iZ (f j)))
  | 16 => .inl (D.1 7, 41, .inl (fun j => iZ (f j)))
  | 17 => .inl (D.1 7, 40, .inl (fun j => iZ (f j)))
  | 18 => .inr (6, [iv (f 0), iv (f 1), iv (f 2), iv (f 3), iv (f 4), iv (f 5), iv (f 6), iv (f 7), .ref (a 19), .ref (a 20), .ref (a 21), .ref (a 22), .ref (a 23), .ref (a 24), .ref (a 25), .ref (a 26), .ref (a 27), .ref (a 28), iv (f 18), .ref (a 29), .ref (a 30), .ref (a 31), .ref (a 32), .ref (a 33), .ref (a 34), .ref (a 35), .ref (a 36), .ref (a 37)])
  | 19 => .inl (D.1 7, 40, .inl (fun j => iZ (f j)))
  | 20 => .inl (D.1 7, 40, .inl (fun j => iZ (f j)))
  | 21 => .inl (D.1 7, 6, .inl (fun j => iZ (f j)))
  | 22 => .inl (D.1 7, 6, .inl (fun j => iZ (f j)))
  | 23 => .inl (D.1 7, 6, .inl (fun j => iZ (f j)))
  | 24 => .inl (D.1 7, 240, .inl (fun j => iZ (f j)))
  | 25 => .inl (D.1 7, 240, .inl (fun j => iZ (f j)))
  | 26 => .inl (D.1 7, 40, .inl (fun j => iZ (f j)))
  | 27 => .inl (D.1 7, 6, .inl (fun j => iZ (f j)))
  | 28 => .inl (D.1 7, 40, .inl (fun j => iZ (f j)))
  | 29 => .inl (D.1 7, 41, .inl (fun j => iZ (f j)))
  | 30 => .inl (D.1 7, 41, .inl (fun j => iZ (f j)))
  | 31 => .inl (D.1 7, 41, .inl (fun j => iZ (f j)))
  | 32 => .inl (D.1 7, 6, .inl (fun j => iZ (f j)))
  | 33 => .inl (D.1 7, 240, .inl (fun j => iZ (f j)))
  | 34 => .inl (D.1 7, 240, .inl (fun j => iZ (f j)))
  | 35 => .inl (D.1 7, 240, .inl (fun j => iZ (f j)))
  | 36 => .inl (D.1 7, 240, .inl (fun j => iZ (f j)))
  | 37 => .inl (D.1 8, 40, .inl (fun j => iZ (f j)))
  | c + 38 => if c % 5 = 0 then .inr (4, [iv (f 0), iv (f 1), .ref (a (c + 39)), .ref (a (c + 40)), iv (f 4), .ref (a (c + 41)), .ref (a (c + 42)), iv (f 7)]) else .inl (D.1 7, 40, .inl (fun j => iZ (f j)))
def wS (D : va_G) (a : Nat → Nat) (n : Nat) (σ : ST) : va_W := (List.range (38 + 5 * n)).map (fun c => (a c, cF D a n c (σ c)))
theorem wS_at {D : va_G} {a : Nat → Nat} {n : Nat} {σ : ST} {c : Nat} (h : c < 38 + 5 * n) : (wS D a n σ)[c]? = some (a c, cF D a n c (σ c)) := by
  unfold wS
  rw [List.getElem?_map, List.getElem?_range h]
  rfl
theorem wS_set {D : va_G} {a : Nat → Nat} {n : Nat} {σ : ST} {c : Nat} {e : va_E} {k z : Int} (h : c < 38 + 5 * n) (he : e = cF D a n c (fun j => if j = k then z else σ c j)) : (wS D a n σ).set c (a c, e) = wS D a n (up2 σ c k z) := by
  apply List.ext_getElem?
  intro i
  by_cases hi : i < 38 + 5 * n
  · rw [wS_at hi]
    by_cases hic : i = c
    · subst hic
      rw [List.getElem?_set_self (by unfold wS; rw [List.length_map, List.length_range]; exact h), up2_c, he]
    · rw [List.getElem?_set_ne (Ne.symm hic), wS_at hi, up2_ne hic]
  · have l1 : (wS D a n (up2 σ c k z)).length ≤ i := by unfold wS; rw [List.length_map, List.length_range]; omega
    have l2 : ((wS D a n σ).set c (a c, e)).length ≤ i := by rw [List.length_set]; unfold wS; rw [List.length_map, List.length_range]; omega
    rw [List.getElem?_eq_none l1, List.getElem?_eq_none l2]
theorem cF_v0 {D : va_G} {a : Nat → Nat} {n : Nat} {f : Int → Int} (i : Nat) : cF D a n (38 + 5 * i) f = .inr (4, [iv (f 0), iv (f 1), .ref (a (39 + 5 * i)), .ref (a (40 + 5 * i)), iv (f 4), .ref (a (41 + 5 * i)), .ref (a (42 + 5 * i)), iv (f 7)]) := by
  rw [show 38 + 5 * i = 5 * i + 38 by omega]
  show (if (5 * i) % 5 = 0 then _ else _) = _
  rw [if_pos (by omega), show 5 * i + 39 = 39 + 5 * i by omega, show 5 * i + 40 = 40 + 5 * i by omega, show 5 * i + 41 = 41 + 5 * i by omega, show 5 * i + 42 = 42 + 5 * i by omega]
theorem cF_vk {D : va_G} {a : Nat → Nat} {n : Nat} {f : Int → Int} (c : Nat) (h : 38 ≤ c) (h5 : (c - 38) % 5 ≠ 0) : cF D a n c f = .inl (D.1 7, 40, .inl (fun j => iZ (f j))) := by
  obtain ⟨d, rfl⟩ : ∃ d, c = d + 38 := ⟨c - 38, by omega⟩
  show (if d % 5 = 0 then _ else _) = _
  rw [if_neg (by omega)]
abbrev tysD (D : va_G) : List (ClassId × FieldType) := [(D.1 7, .int), (D.1 8, .boolean), (D.1 9, .object "PartRoom$Voice")]
/-- the words of private members among nest mates -/
def nwL : List Cond := [Cond.fieldLinkNest "PartRoom$Part" (66 : Nat) "PartRoom$Score" "seconds" "[I" "PartRoom", Cond.fieldLinkNest "PartRoom$Voice" (44 : Nat) "PartRoom$Score" "bits" "[I" "PartRoom", Cond.fieldLinkNest "PartRoom$Part" (48 : Nat) "PartRoom$Score" "bits" "[I" "PartRoom", Cond.fieldLinkNest "PartRoom" (100 : Nat) "PartRoom$Score" "bits" "[I" "PartRoom", Cond.fieldLinkNest "PartRoom" (171 : Nat) "PartRoom$Score" "barCount" "I" "PartRoom", Cond.fieldLinkNest "PartRoom$Part" (75 : Nat) "PartRoom$Score" "voiceCount" "I" "PartRoom", Cond.fieldLinkNest "PartRoom" (174 : Nat) "PartRoom$Score" "voiceCount" "I" "PartRoom", Cond.fieldLinkNest "PartRoom$Layout" (50 : Nat) "PartRoom$Part" "size" "I" "PartRoom", Cond.fieldLinkNest "PartRoom$Told" (20 : Nat) "PartRoom$Part" "size" "I" "PartRoom", Cond.fieldLinkNest "PartRoom" (183 : Nat) "PartRoom$Told" "waiting" "I" "PartRoom", Cond.fieldLinkNest "PartRoom" (87 : Nat) "PartRoom$Voice" "shift" "I" "PartRoom", Cond.fieldLinkNest "PartRoom$Part" (42 : Nat) "PartRoom$Voice" "notes" "[I" "PartRoom", Cond.fieldLinkNest "PartRoom" (94 : Nat) "PartRoom$Voice" "notes" "[I" "PartRoom", Cond.fieldLinkNest "PartRoom" (97 : Nat) "PartRoom$Voice" "loud" "[I" "PartRoom", Cond.fieldLinkNest "PartRoom$Part" (91 : Nat) "PartRoom$Voice" "loud" "[I" "PartRoom", Cond.fieldLinkNest "PartRoom" (107 : Nat) "PartRoom$Voice" "onStage" "Z" "PartRoom", Cond.fieldLinkNest "PartRoom$Part" (82 : Nat) "PartRoom$Voice" "onStage" "Z" "PartRoom", Cond.fieldLinkNest "PartRoom$Score" (42 : Nat) "PartRoom$Voice" "laidPages" "I" "PartRoom", Cond.fieldLinkNest "PartRoom" (154 : Nat) "PartRoom$Voice" "laidPages" "I" "PartRoom"]
def NW (U : State) : Prop := ∀ w ∈ nwL, va_Nw w U
theorem nw_form : ∀ w ∈ nwL, ∃ a i b n d h, w = Cond.fieldLinkNest a i b n d h := by
  intro w hw
  simp only [nwL, List.mem_cons, List.not_mem_nil, or_false] at hw
  rcases hw with rfl | rfl | rfl | rfl | rfl | rfl | rfl | rfl | rfl | rfl | rfl | rfl | rfl | rfl | rfl | rfl | rfl | rfl | rfl <;> exact ⟨_, _, _, _, _, _, rfl⟩
theorem NW.warm {s U : State} (h : NW s) (hW : s.WarmedH U.vm) : NW U := by
  intro w hw
  obtain ⟨a, i, b, n, d, x, rfl⟩ := nw_form w hw
  exact va_Nw.warmF hW (h _ hw)
theorem NW.same {s U : State} (h : NW s) (hv : s.vm = U.vm) : NW U := by
  intro w hw
  obtain ⟨a, i, b, n, d, x, rfl⟩ := nw_form w hw
  exact va_Nw.same rfl hv (h _ hw)
/-! the judgement: machine data in one tuple -/
abbrev KT : Type := Program × Launch × Env × Room × State × MethodId × Array Value × List Frame × Method × Code × Nat × (State → Prop) × (Nat → Prop) × va_G
def J (κ : KT) (k1 k2 : Nat) (a : Nat → Nat) (n : Nat) (σ : ST) (L : List (Nat × Value)) (pc : Nat) (st : List Value) : Prop := match κ with
  | (p, l, e, R, s, m, args, below, meth, c, nL, Q, A, D) => ∀ (H : Heap) (locs : List Loc) (ls : Array Slot), va_P D vwCl (wS D a n σ) H → va_D A (wS D a n σ) → va_S A s.heap H locs → (∀ c j, inR (σ c j)) → lv_has ls nL L → W p l e R s m args below meth c H locs k1 k2 Q (F0 m pc ls st)
def CX (κ : KT) (cc : ByteArray) (own : String) (mL : Nat) (rm : Room) : Prop := match κ with
  | (p, _, _, R, s, m, args, _, meth, c, nL, _, A, D) => p.tables.exec = Jvm.exec ∧ c.code = cc ∧ c.maxLocals = nL ∧ s.vm.findClass own = some m.cls ∧ (∀ w ∈ lw_g, w.before args s = true) ∧ va_K D vwCl (tysD D) s ∧ (∀ q : Nat, s.heap.size ≤ q → A q) ∧ meth.locks = false ∧ nL = mL ∧ R = rm ∧ NW s
def lst (L : List (Nat × Value)) (i : Nat) (v : Value) : List (Nat × Value) := (i, v) :: L.filter (fun q => !(q.1 == i) && !(q.1 + 1 == i && q.2.category == 2))
end
section
section JR
variable {κ : KT} {cc : ByteArray} {own : String} {mL : Nat} {rm : Room} {k1 k2 : Nat} {a : Nat → Nat} {n : Nat} {σ : ST} {L : List (Nat × Value)} {pc : Nat} {st : List Value}
theorem r_sub (ks : List Nat) {L' : List (Nat × Value)} (hl : lv_pick L ks = L') (k : J κ k1 k2 a n σ L' pc st) : J κ k1 k2 a n σ L pc st := by
  obtain ⟨p, l, e, R, s, m, args, below, meth, c, nL, Q, A, D⟩ := κ
  intro H locs ls hP hD hS hR h
  exact k H locs ls hP hD hS hR (lv_sub h ks hl)
theorem r_inR (k : (∀ c j, inR (σ c j)) → J κ k1 k2 a n σ L pc st) : J κ k1 k2 a n σ L pc st := by
  obtain ⟨p, l, e, R, s, m, args, below, meth, c, nL, Q, A, D⟩ := κ
  intro H locs ls hP hD hS hR h
  exact k hR H locs ls hP hD hS hR h
theorem r_top {x : Int} (k : ∀ y : Int, y = x → J κ k1 k2 a n σ L pc (iv y :: st)) : J κ k1 k2 a n σ L pc (iv x :: st) := k x rfl
theorem r_topv {x : Int} (y : Int) (h : x = y) (k : J κ k1 k2 a n σ L pc (iv y :: st)) : J κ k1 k2 a n σ L pc (iv x :: st) := h ▸ k
theorem r_iconst {z : Int} (C : CX κ cc own mL rm) (hd : decode cc pc = .ok (.iconst z, 1)) (k : J κ k1 k2 a n σ L (pc + 1) (iv z :: st)) : J κ k1 k2 a n σ L pc st := by
  obtain ⟨p, l, e, R, s, m, args, below, meth, c, nL, Q, A, D⟩ := κ
  obtain ⟨hx, hb, hml, hown, hts, hK, hA, hlk, hnL, hRm, hN⟩ := C
  intro H locs ls hP hD hS hR hl
  exact lv_iconst hx hb hd rfl (k H locs ls hP hD hS hR hl)
theorem r_bipush {z : Int} (C : CX κ cc own mL rm) (hd : decode cc pc = .ok (.bipush z, 2)) (hz : (Int8.ofInt z).toInt32 = Int32.ofInt z) (k : J κ k1 k2 a n σ L (pc + 2) (iv z :: st)) : J κ k1 k2 a n σ L pc st := by
  obtain ⟨p, l, e, R, s, m, args, below, meth, c, nL, Q, A, D⟩ := κ
  obtain ⟨hx, hb, hml, hown, hts, hK, hA, hlk, hnL, hRm, hN⟩ := C
  intro H locs ls hP hD hS hR hl
  exact lv_bipush hx hb hd hz (k H locs ls hP hD hS hR hl)
theorem r_sipush {z : Int} (C : CX κ cc own mL rm) (hd : decode cc pc = .ok (.sipush z, 3)) (hz : (Int16.ofInt z).toInt32 = Int32.ofInt z) (k : J κ k1 k2 a n σ L (pc + 3) (iv z :: st)) : J κ k1 k2 a n σ L pc st := by
  obtain ⟨p, l, e, R, s, m, args, below, meth, c, nL, Q, A, D⟩ := κ
  obtain ⟨hx, hb, hml, hown, hts, hK, hA, hlk, hnL, hRm, hN⟩ := C
  intro H locs ls hP hD hS hR hl
  exact lv_sipush hx hb hd hz (k H locs ls hP hD hS hR hl)
theorem r_ldc {v : Int32} {i : Nat} (z : Int) (C : CX κ cc own mL rm) (hd : decode cc pc = .ok (.ldc i, 2)) (hw : Cond.constant own i v ∈ lw_g) (hz : v = Int32.ofInt z) (k : J κ k1 k2 a n σ L (pc + 2) (iv z :: st)) : J κ k1 k2 a n σ L pc st := by
  obtain ⟨p, l, e, R, s, m, args, below, meth, c, nL, Q, A, D⟩ := κ
  obtain ⟨hx, hb, hml, hown, hts, hK, hA, hlk, hnL, hRm, hN⟩ := C
  intro H locs ls hP hD hS hR hl
  subst hz
  exact lv_ldc hx hb hown (hts _ hw) hd (k H locs ls hP hD hS hR hl)
theorem r_iload_n {j : Fin 4} {x : Int} (C : CX κ cc own mL rm) (hd : decode cc pc = .ok (.iload_n j, 1)) (q : Nat) (hq : L[q]? = some ((j : Nat), iv x)) (k : J κ k1 k2 a n σ L (pc + 1) (iv x :: st)) : J κ k1 k2 a n σ L pc st := by
  obtain ⟨p, l, e, R, s, m, args, below, meth, c, nL, Q, A, D⟩ := κ
  obtain ⟨hx, hb, hml, hown, hts, hK, hA, hlk, hnL, hRm, hN⟩ := C
  intro H locs ls hP hD hS hR hl
  exact lv_iload_n hx hb hd rfl (lv_at hl q hq) (k H locs ls hP hD hS hR hl)
theorem r_iload {j : Nat} {x : Int} (C : CX κ cc own mL rm) (hd : decode cc pc = .ok (.iload j, 2)) (q : Nat) (hq : L[q]? = some (j, iv x)) (k : J κ k1 k2 a n σ L (pc + 2) (iv x :: st)) : J κ k1 k2 a n σ L pc st := by
  obtain ⟨p, l, e, R, s, m, args, below, meth, c, nL, Q, A, D⟩ := κ
  obtain ⟨hx, hb, hml, hown, hts, hK, hA, hlk, hnL, hRm, hN⟩ := C
  intro H locs ls hP hD hS hR hl
  exact lv_iload hx hb hd (lv_at hl q hq) (k H locs ls hP hD hS hR hl)
theorem r_aload_n {j : Fin 4} {x : Nat} (C : CX κ cc own mL rm) (hd : decode cc pc = .ok (.aload_n j, 1)) (q : Nat) (hq : L[q]? = some ((j : Nat), .ref x)) (k : J κ k1 k2 a n σ L (pc + 1) (.ref x :: st)) : J κ k1 k2 a n σ L pc st := by
  obtain ⟨p, l, e, R, s, m, args, below, meth, c, nL, Q, A, D⟩ := κ
  obtain ⟨hx, hb, hml, hown, hts, hK, hA, hlk, hnL, hRm, hN⟩ := C
  intro H locs ls hP hD hS hR hl
  exact lv_aload_n hx hb hd rfl (lv_at hl q hq) (k H locs ls hP hD hS hR hl)
theorem r_aload {j : Nat} {x : Nat} (C : CX κ cc own mL rm) (hd : decode cc pc = .ok (.aload j, 2)) (q : Nat) (hq : L[q]? = some (j, .ref x)) (k : J κ k1 k2 a n σ L (pc + 2) (.ref x :: st)) : J κ k1 k2 a n σ L pc st := by
  obtain ⟨p, l, e, R, s, m, args, below, meth, c, nL, Q, A, D⟩ := κ
  obtain ⟨hx, hb, hml, hown, hts, hK, hA, hlk, hnL, hRm, hN⟩ := C
  intro H locs ls hP hD hS hR hl
  exact lv_aload hx hb hd (lv_at hl q hq) (k H locs ls hP hD hS hR hl)
theorem r_aload_nN {j : Fin 4} (C : CX κ cc own mL rm) (hd : decode cc pc = .ok (.aload_n j, 1)) (q : Nat) (hq : L[q]? = some ((j : Nat), .null)) (k : J κ k1 k2 a n σ L (pc + 1) (.null :: st)) : J κ k1 k2 a n σ L pc st := by
  obtain ⟨p, l, e, R, s, m, args, below, meth, c, nL, Q, A, D⟩ := κ
  obtain ⟨hx, hb, hml, hown, hts, hK, hA, hlk, hnL, hRm, hN⟩ := C
  intro H locs ls hP hD hS hR hl
  exact lv_aload_nN hx hb hd rfl (lv_at hl q hq) (k H locs ls hP hD hS hR hl)
theorem r_aloadN {j : Nat} (C : CX κ cc own mL rm) (hd : decode cc pc = .ok (.aload j, 2)) (q : Nat) (hq : L[q]? = some (j, .null)) (k : J κ k1 k2 a n σ L (pc + 2) (.null :: st)) : J κ k1 k2 a n σ L pc st := by
  obtain ⟨p, l, e, R, s, m, args, below, meth, c, nL, Q, A, D⟩ := κ
  obtain ⟨hx, hb, hml, hown, hts, hK, hA, hlk, hnL, hRm, hN⟩ := C
  intro H locs ls hP hD hS hR hl
  exact lv_aloadN hx hb hd (lv_at hl q hq) (k H locs ls hP hD hS hR hl)
theorem r_istore_n {j : Fin 4} {x : Int} (C : CX κ cc own mL rm) (hd : decode cc pc = .ok (.istore_n j, 1)) (hn : (j : Nat) < mL) (L' : Int → List (Nat × Value)) (hl' : ∀ v, lst L j (iv v) = L' v) (k : ∀ v, v = x → J κ k1 k2 a n σ (L' v) (pc + 1) st) : J κ k1 k2 a n σ L pc (iv x :: st) := by
  have k0 := k x rfl
  rw [← hl' x] at k0
  obtain ⟨p, l, e, R, s, m, args, below, meth, c, nL, Q, A, D⟩ := κ
  obtain ⟨hx, hb, hml, hown, hts, hK, hA, hlk, hnL, hRm, hN⟩ := C
  intro H locs ls hP hD hS hR hl
  exact lv_istore_n (lv' := lst L j (iv x)) hx hb hd rfl hl (by rw [hnL]; exact hn) rfl (fun ls hl => k0 H locs ls hP hD hS hR hl)
theorem r_istore {j : Nat} {x : Int} (C : CX κ cc own mL rm) (hd : decode cc pc = .ok (.istore j, 2)) (hn : (j : Nat) < mL) (L' : Int → List (Nat × Value)) (hl' : ∀ v, lst L j (iv v) = L' v) (k : ∀ v, v = x → J κ k1 k2 a n σ (L' v) (pc + 2) st) : J κ k1 k2 a n σ L pc (iv x :: st) := by
  have k0 := k x rfl
  rw [← hl' x] at k0
  obtain ⟨p, l, e, R, s, m, args, below, meth, c, nL, Q, A, D⟩ := κ
  obtain ⟨hx, hb, hml, hown, hts, hK, hA, hlk, hnL, hRm, hN⟩ := C
  intro H locs ls hP hD hS hR hl
  exact lv_istore (lv' := lst L j (iv x)) hx hb hd hl (by rw [hnL]; exact hn) rfl (fun ls hl => k0 H locs ls hP hD hS hR hl)
theorem r_astore_n {j : Fin 4} {x : Nat} (C : CX κ cc own mL rm) (hd : decode cc pc = .ok (.astore_n j, 1)) (hn : (j : Nat) < mL) (L' : List (Nat × Value)) (hl' : lst L j (.ref x) = L') (k : J κ k1 k2 a n σ L' (pc + 1) st) : J κ k1 k2 a n σ L pc (.ref x :: st) := by
  subst hl'
  obtain ⟨p, l, e, R, s, m, args, below, meth, c, nL, Q, A, D⟩ := κ
  obtain ⟨hx, hb, hml, hown, hts, hK, hA, hlk, hnL, hRm, hN⟩ := C
  intro H locs ls hP hD hS hR hl
  exact lv_astore_n (lv' := lst L j (.ref x)) hx hb hd rfl hl (by rw [hnL]; exact hn) rfl (fun ls hl => k H locs ls hP hD hS hR hl)
theorem r_astore {j : Nat} {x : Nat} (C : CX κ cc own mL rm) (hd : decode cc pc = .ok (.astore j, 2)) (hn : (j : Nat) < mL) (L' : List (Nat × Value)) (hl' : lst L j (.ref x) = L') (k : J κ k1 k2 a n σ L' (pc + 2) st) : J κ k1 k2 a n σ L pc (.ref x :: st) := by
  subst hl'
  obtain ⟨p, l, e, R, s, m, args, below, meth, c, nL, Q, A, D⟩ := κ
  obtain ⟨hx, hb, hml, hown, hts, hK, hA, hlk, hnL, hRm, hN⟩ := C
  intro H locs ls hP hD hS hR hl
  exact lv_astore (lv' := lst L j (.ref x)) hx hb hd hl (by rw [hnL]; exact hn) rfl (fun ls hl => k H locs ls hP hD hS hR hl)
theorem r_astore_nN {j : Fin 4} (C : CX κ cc own mL rm) (hd : decode cc pc = .ok (.astore_n j, 1)) (hn : (j : Nat) < mL) (L' : List (Nat × Value)) (hl' : lst L j .null = L') (k : J κ k1 k2 a n σ L' (pc + 1) st) : J κ k1 k2 a n σ L pc (.null :: st) := by
  subst hl'
  obtain ⟨p, l, e, R, s, m, args, below, meth, c, nL, Q, A, D⟩ := κ
  obtain ⟨hx, hb, hml, hown, hts, hK, hA, hlk, hnL, hRm, hN⟩ := C
  intro H locs ls hP hD hS hR hl
  exact lv_astore_nN (lv' := lst L j .null) hx hb hd rfl hl (by rw [hnL]; exact hn) rfl (fun ls hl => k H locs ls hP hD hS hR hl)
theorem r_astoreN {j : Nat} (C : CX κ cc own mL rm) (hd : decode cc pc = .ok (.astore j, 2)) (hn : (j : Nat) < mL) (L' : List (Nat × Value)) (hl' : lst L j .null = L') (k : J κ k1 k2 a n σ L' (pc + 2) st) : J κ k1 k2 a n σ L pc (.null :: st) := by
  subst hl'
  obtain ⟨p, l, e, R, s, m, args, below, meth, c, nL, Q, A, D⟩ := κ
  obtain ⟨hx, hb, hml, hown, hts, hK, hA, hlk, hnL, hRm, hN⟩ := C
  intro H locs ls hP hD hS hR hl
  exact lv_astoreN (lv' := lst L j .null) hx hb hd hl (by rw [hnL]; exact hn) rfl (fun ls hl => k H locs ls hP hD hS hR hl)
theorem r_iinc {j : Nat} {x z : Int} (C : CX κ cc own mL rm) (hd : decode cc pc = .ok (.iinc j z, 3)) (hn : (j : Nat) < mL) (q : Nat) (hq : L[q]? = some (j, iv x)) (L' : Int → List (Nat × Value)) (hl' : ∀ v, lst L j (iv v) = L' v) (k : ∀ v, v = x + z → J κ k1 k2 a n σ (L' v) (pc + 3) st) : J κ k1 k2 a n σ L pc st := by
  have k0 := k (x + z) rfl
  rw [← hl' (x + z)] at k0
  obtain ⟨p, l, e, R, s, m, args, below, meth, c, nL, Q, A, D⟩ := κ
  obtain ⟨hx, hb, hml, hown, hts, hK, hA, hlk, hnL, hRm, hN⟩ := C
  intro H locs ls hP hD hS hR hl
  exact lv_iinc (v := iZ (x + z)) (lv' := lst L j (iv (x + z))) hx hb hd hl (k := q) hq (iZ_add x z) (by rw [hnL]; exact hn) rfl (fun ls hl => k0 H locs ls hP hD hS hR hl)
theorem r_iadd {x y : Int} (C : CX κ cc own mL rm) (hd : decode cc pc = .ok (.iadd, 1)) (k : J κ k1 k2 a n σ L (pc + 1) (iv (x + y) :: st)) : J κ k1 k2 a n σ L pc (iv y :: iv x :: st) := by
  obtain ⟨p, l, e, R, s, m, args, below, meth, c, nL, Q, A, D⟩ := κ
  obtain ⟨hx, hb, hml, hown, hts, hK, hA, hlk, hnL, hRm, hN⟩ := C
  intro H locs ls hP hD hS hR hl
  exact lv_iadd hx hb hd (by rw [iZ_add]; exact k H locs ls hP hD hS hR hl)
theorem r_isub {x y : Int} (C : CX κ cc own mL rm) (hd : decode cc pc = .ok (.isub, 1)) (k : J κ k1 k2 a n σ L (pc + 1) (iv (x - y) :: st)) : J κ k1 k2 a n σ L pc (iv y :: iv x :: st) := by
  obtain ⟨p, l, e, R, s, m, args, below, meth, c, nL, Q, A, D⟩ := κ
  obtain ⟨hx, hb, hml, hown, hts, hK, hA, hlk, hnL, hRm, hN⟩ := C
  intro H locs ls hP hD hS hR hl
  exact lv_isub hx hb hd (by rw [iZ_sub]; exact k H locs ls hP hD hS hR hl)
theorem r_imul {x y : Int} (C : CX κ cc own mL rm) (hd : decode cc pc = .ok (.imul, 1)) (k : J κ k1 k2 a n σ L (pc + 1) (iv (x * y) :: st)) : J κ k1 k2 a n σ L pc (iv y :: iv x :: st) := by
  obtain ⟨p, l, e, R, s, m, args, below, meth, c, nL, Q, A, D⟩ := κ
  obtain ⟨hx, hb, hml, hown, hts, hK, hA, hlk, hnL, hRm, hN⟩ := C
  intro H locs ls hP hD hS hR hl
  exact lv_imul hx hb hd (by rw [iZ_mul]; exact k H locs ls hP hD hS hR hl)
theorem r_ineg {x : Int} (C : CX κ cc own mL rm) (hd : decode cc pc = .ok (.ineg, 1)) (k : J κ k1 k2 a n σ L (pc + 1) (iv (-x) :: st)) : J κ k1 k2 a n σ L pc (iv x :: st) := by
  obtain ⟨p, l, e, R, s, m, args, below, meth, c, nL, Q, A, D⟩ := κ
  obtain ⟨hx, hb, hml, hown, hts, hK, hA, hlk, hnL, hRm, hN⟩ := C
  intro H locs ls hP hD hS hR hl
  exact lv_ineg hx hb hd (by rw [iZ_neg]; exact k H locs ls hP hD hS hR hl)
theorem r_iand {x y : Int} (C : CX κ cc own mL rm) (hd : decode cc pc = .ok (.iand, 1)) (k : J κ k1 k2 a n σ L (pc + 1) (iv (iand x y) :: st)) : J κ k1 k2 a n σ L pc (iv y :: iv x :: st) := by
  obtain ⟨p, l, e, R, s, m, args, below, meth, c, nL, Q, A, D⟩ := κ
  obtain ⟨hx, hb, hml, hown, hts, hK, hA, hlk, hnL, hRm, hN⟩ := C
  intro H locs ls hP hD hS hR hl
  exact lv_iand hx hb hd (by rw [iand_Z]; exact k H locs ls hP hD hS hR hl)
theorem r_ixor {x y : Int} (C : CX κ cc own mL rm) (hd : decode cc pc = .ok (.ixor, 1)) (k : J κ k1 k2 a n σ L (pc + 1) (iv (ixor x y) :: st)) : J κ k1 k2 a n σ L pc (iv y :: iv x :: st) := by
  obtain ⟨p, l, e, R, s, m, args, below, meth, c, nL, Q, A, D⟩ := κ
  obtain ⟨hx, hb, hml, hown, hts, hK, hA, hlk, hnL, hRm, hN⟩ := C
  intro H locs ls hP hD hS hR hl
  exact lv_ixor hx hb hd (by rw [ixor_Z]; exact k H locs ls hP hD hS hR hl)
theorem r_idiv {x y : Int} (C : CX κ cc own mL rm) (hd : decode cc pc = .ok (.idiv, 1)) (hx1 : inR x) (hy1 : inR y) (hy2 : y ≠ -1) (hy3 : y ≠ 0) (k : J κ k1 k2 a n σ L (pc + 1) (iv (x.tdiv y) :: st)) : J κ k1 k2 a n σ L pc (iv y :: iv x :: st) := by
  obtain ⟨p, l, e, R, s, m, args, below, meth, c, nL, Q, A, D⟩ := κ
  obtain ⟨hx, hb, hml, hown, hts, hK, hA, hlk, hnL, hRm, hN⟩ := C
  intro H locs ls hP hD hS hR hl
  exact lv_idiv hx hb hd (fun q => hy3 ((iZ_eq hy1 in0).mp (q.trans iZ_0))) (by rw [idiv_Z hx1 hy1 hy2]; exact k H locs ls hP hD hS hR hl)
theorem r_dup {v : Value} (C : CX κ cc own mL rm) (hd : decode cc pc = .ok (.dup, 1)) (hc : v.category = 1) (k : J κ k1 k2 a n σ L (pc + 1) (v :: v :: st)) : J κ k1 k2 a n σ L pc (v :: st) := by
  obtain ⟨p, l, e, R, s, m, args, below, meth, c, nL, Q, A, D⟩ := κ
  obtain ⟨hx, hb, hml, hown, hts, hK, hA, hlk, hnL, hRm, hN⟩ := C
  intro H locs ls hP hD hS hR hl
  exact lv_dup hx hb hd hc (k H locs ls hP hD hS hR hl)
theorem r_dup2 {v w : Value} (C : CX κ cc own mL rm) (hd : decode cc pc = .ok (.dup2, 1)) (hc : v.category = 1) (hc2 : w.category = 1) (k : J κ k1 k2 a n σ L (pc + 1) (v :: w :: v :: w :: st)) : J κ k1 k2 a n σ L pc (v :: w :: st) := by
  obtain ⟨p, l, e, R, s, m, args, below, meth, c, nL, Q, A, D⟩ := κ
  obtain ⟨hx, hb, hml, hown, hts, hK, hA, hlk, hnL, hRm, hN⟩ := C
  intro H locs ls hP hD hS hR hl
  exact lv_dup2_11 hx hb hd hc hc2 (k H locs ls hP hD hS hR hl)
theorem r_goto {off : Int} {tgt : Nat} (C : CX κ cc own mL rm) (hd : decode cc pc = .ok (.goto off, 3)) (ht : (pc : Int) + off = (tgt : Int)) (k : J κ k1 k2 a n σ L tgt st) : J κ k1 k2 a n σ L pc st := by
  obtain ⟨p, l, e, R, s, m, args, below, meth, c, nL, Q, A, D⟩ := κ
  obtain ⟨hx, hb, hml, hown, hts, hK, hA, hlk, hnL, hRm, hN⟩ := C
  intro H locs ls hP hD hS hR hl
  exact lv_goto hx hb hd ht (k H locs ls hP hD hS hR hl)
theorem iff0_eq {x : Int} (hx1 : inR x) : iZ x = 0 ↔ x = 0 := by rw [iZ_0]; exact (iZ_eq hx1 in0)
theorem r_icmp_eq {x y off : Int} {tgt : Nat} (C : CX κ cc own mL rm) (hd : decode cc pc = .ok (.if_icmp .eq off, 3)) (ht : (pc : Int) + off = (tgt : Int)) (hx1 : inR x) (hy1 : inR y) (kt : x = y → J κ k1 k2 a n σ L tgt st) (kf : ¬ x = y → J κ k1 k2 a n σ L (pc + 3) st) : J κ k1 k2 a n σ L pc (iv y :: iv x :: st) := by
  obtain ⟨p, l, e, R, s, m, args, below, meth, c, nL, Q, A, D⟩ := κ
  obtain ⟨hx, hb, hml, hown, hts, hK, hA, hlk, hnL, hRm, hN⟩ := C
  intro H locs ls hP hD hS hR hl
  exact lv_icmp_eq hx hb hd ht (fun q => kt ((iZ_eq hx1 hy1).mp q) H locs ls hP hD hS hR hl) (fun q => kf (fun q2 => q ((iZ_eq hx1 hy1).mpr q2)) H locs ls hP hD hS hR hl)
theorem r_if_eq {x off : Int} {tgt : Nat} (C : CX κ cc own mL rm) (hd : decode cc pc = .ok (.ifCond .eq off, 3)) (ht : (pc : Int) + off = (tgt : Int)) (hx1 : inR x) (kt : x = 0 → J κ k1 k2 a n σ L tgt st) (kf : ¬ x = 0 → J κ k1 k2 a n σ L (pc + 3) st) : J κ k1 k2 a n σ L pc (iv x :: st) := by
  obtain ⟨p, l, e, R, s, m, args, below, meth, c, nL, Q, A, D⟩ := κ
  obtain ⟨hx, hb, hml, hown, hts, hK, hA, hlk, hnL, hRm, hN⟩ := C
  intro H locs ls hP hD hS hR hl
  exact lv_if_eq hx hb hd ht (fun q => kt ((iff0_eq hx1).mp q) H locs ls hP hD hS hR hl) (fun q => kf (fun q2 => q ((iff0_eq hx1).mpr q2)) H locs ls hP hD hS hR hl)
theorem iff0_ne {x : Int} (hx1 : inR x) : iZ x = 0 ↔ x = 0 := by rw [iZ_0]; exact (iZ_eq hx1 in0)
theorem r_icmp_ne {x y off : Int} {tgt : Nat} (C : CX κ cc own mL rm) (hd : decode cc pc = .ok (.if_icmp .ne off, 3)) (ht : (pc : Int) + off = (tgt : Int)) (hx1 : inR x) (hy1 : inR y) (kt : ¬ x = y → J κ k1 k2 a n σ L tgt st) (kf : x = y → J κ k1 k2 a n σ L (pc + 3) st) : J κ k1 k2 a n σ L pc (iv y :: iv x :: st) := by
  obtain ⟨p, l, e, R, s, m, args, below, meth, c, nL, Q, A, D⟩ := κ
  obtain ⟨hx, hb, hml, hown, hts, hK, hA, hlk, hnL, hRm, hN⟩ := C
  intro H locs ls hP hD hS hR hl
  exact lv_icmp_ne hx hb hd ht (fun q => kt (fun q2 => q ((iZ_eq hx1 hy1).mpr q2)) H locs ls hP hD hS hR hl) (fun q => kf ((iZ_eq hx1 hy1).mp q) H locs ls hP hD hS hR hl)
theorem r_if_ne {x off : Int} {tgt : Nat} (C : CX κ cc own mL rm) (hd : decode cc pc = .ok (.ifCond .ne off, 3)) (ht : (pc : Int) + off = (tgt : Int)) (hx1 : inR x) (kt : ¬ x = 0 → J κ k1 k2 a n σ L tgt st) (kf : x = 0 → J κ k1 k2 a n σ L (pc + 3) st) : J κ k1 k2 a n σ L pc (iv x :: st) := by
  obtain ⟨p, l, e, R, s, m, args, below, meth, c, nL, Q, A, D⟩ := κ
  obtain ⟨hx, hb, hml, hown, hts, hK, hA, hlk, hnL, hRm, hN⟩ := C
  intro H locs ls hP hD hS hR hl
  exact lv_if_ne hx hb hd ht (fun q => kt (fun q2 => q ((iff0_ne hx1).mpr q2)) H locs ls hP hD hS hR hl) (fun q => kf ((iff0_ne hx1).mp q) H locs ls hP hD hS hR hl)
theorem iff0_lt {x : Int} (hx1 : inR x) : iZ x < 0 ↔ x < 0 := by rw [iZ_0]; exact (iZ_lt hx1 in0)
theorem r_icmp_lt {x y off : Int} {tgt : Nat} (C : CX κ cc own mL rm) (hd : decode cc pc = .ok (.if_icmp .lt off, 3)) (ht : (pc : Int) + off = (tgt : Int)) (hx1 : inR x) (hy1 : inR y) (kt : x < y → J κ k1 k2 a n σ L tgt st) (kf : ¬ x < y → J κ k1 k2 a n σ L (pc + 3) st) : J κ k1 k2 a n σ L pc (iv y :: iv x :: st) := by
  obtain ⟨p, l, e, R, s, m, args, below, meth, c, nL, Q, A, D⟩ := κ
  obtain ⟨hx, hb, hml, hown, hts, hK, hA, hlk, hnL, hRm, hN⟩ := C
  intro H locs ls hP hD hS hR hl
  exact lv_icmp_lt hx hb hd ht (fun q => kt ((iZ_lt hx1 hy1).mp q) H locs ls hP hD hS hR hl) (fun q => kf (fun q2 => q ((iZ_lt hx1 hy1).mpr q2)) H locs ls hP hD hS hR hl)
theorem r_if_lt {x off : Int} {tgt : Nat} (C : CX κ cc own mL rm) (hd : decode cc pc = .ok (.ifCond .lt off, 3)) (ht : (pc : Int) + off = (tgt : Int)) (hx1 : inR x) (kt : x < 0 → J κ k1 k2 a n σ L tgt st) (kf : ¬ x < 0 → J κ k1 k2 a n σ L (pc + 3) st) : J κ k1 k2 a n σ L pc (iv x :: st) := by
  obtain ⟨p, l, e, R, s, m, args, below, meth, c, nL, Q, A, D⟩ := κ
  obtain ⟨hx, hb, hml, hown, hts, hK, hA, hlk, hnL, hRm, hN⟩ := C
  intro H locs ls hP hD hS hR hl
  exact lv_if_lt hx hb hd ht (fun q => kt ((iff0_lt hx1).mp q) H locs ls hP hD hS hR hl) (fun q => kf (fun q2 => q ((iff0_lt hx1).mpr q2)) H locs ls hP hD hS hR hl)
theorem iff0_ge {x : Int} (hx1 : inR x) : 0 ≤ iZ x ↔ 0 ≤ x := by rw [iZ_0]; exact (iZ_le in0 hx1)
theorem r_icmp_ge {x y off : Int} {tgt : Nat} (C : CX κ cc own mL rm) (hd : decode cc pc = .ok (.if_icmp .ge off, 3)) (ht : (pc : Int) + off = (tgt : Int)) (hx1 : inR x) (hy1 : inR y) (kt : y ≤ x → J κ k1 k2 a n σ L tgt st) (kf : ¬ y ≤ x → J κ k1 k2 a n σ L (pc + 3) st) : J κ k1 k2 a n σ L pc (iv y :: iv x :: st) := by
  obtain ⟨p, l, e, R, s, m, args, below, meth, c, nL, Q, A, D⟩ := κ
  obtain ⟨hx, hb, hml, hown, hts, hK, hA, hlk, hnL, hRm, hN⟩ := C
  intro H locs ls hP hD hS hR hl
  exact lv_icmp_ge hx hb hd ht (fun q => kt ((iZ_le hy1 hx1).mp q) H locs ls hP hD hS hR hl) (fun q => kf (fun q2 => q ((iZ_le hy1 hx1).mpr q2)) H locs ls hP hD hS hR hl)
theorem r_if_ge {x off : Int} {tgt : Nat} (C : CX κ cc own mL rm) (hd : decode cc pc = .ok (.ifCond .ge off, 3)) (ht : (pc : Int) + off = (tgt : Int)) (hx1 : inR x) (kt : 0 ≤ x → J κ k1 k2 a n σ L tgt st) (kf : ¬ 0 ≤ x → J κ k1 k2 a n σ L (pc + 3) st) : J κ k1 k2 a n σ L pc (iv x :: st) := by
  obtain ⟨p, l, e, R, s, m, args, below, meth, c, nL, Q, A, D⟩ := κ
  obtain ⟨hx, hb, hml, hown, hts, hK, hA, hlk, hnL, hRm, hN⟩ := C
  intro H locs ls hP hD hS hR hl
  exact lv_if_ge hx hb hd ht (fun q => kt ((iff0_ge hx1).mp q) H locs ls hP hD hS hR hl) (fun q => kf (fun q2 => q ((iff0_ge hx1).mpr q2)) H locs ls hP hD hS hR hl)
theorem iff0_gt {x : Int} (hx1 : inR x) : 0 < iZ x ↔ 0 < x := by rw [iZ_0]; exact (iZ_lt in0 hx1)
theorem r_icmp_gt {x y off : Int} {tgt : Nat} (C : CX κ cc own mL rm) (hd : decode cc pc = .ok (.if_icmp .gt off, 3)) (ht : (pc : Int) + off = (tgt : Int)) (hx1 : inR x) (hy1 : inR y) (kt : y < x → J κ k1 k2 a n σ L tgt st) (kf : ¬ y < x → J κ k1 k2 a n σ L (pc + 3) st) : J κ k1 k2 a n σ L pc (iv y :: iv x :: st) := by
  obtain ⟨p, l, e, R, s, m, args, below, meth, c, nL, Q, A, D⟩ := κ
  obtain ⟨hx, hb, hml, hown, hts, hK, hA, hlk, hnL, hRm, hN⟩ := C
  intro H locs ls hP hD hS hR hl
  exact lv_icmp_gt hx hb hd ht (fun q => kt ((iZ_lt hy1 hx1).mp q) H locs ls hP hD hS hR hl) (fun q => kf (fun q2 => q ((iZ_lt hy1 hx1).mpr q2)) H locs ls hP hD hS hR hl)
theorem r_if_gt {x off : Int} {tgt : Nat} (C : CX κ cc own mL rm) (hd : decode cc pc = .ok (.ifCond .gt off, 3)) (ht : (pc : Int) + off = (tgt : Int)) (hx1 : inR x) (kt : 0 < x → J κ k1 k2 a n σ L tgt st) (kf : ¬ 0 < x → J κ k1 k2 a n σ L (pc + 3) st) : J κ k1 k2 a n σ L pc (iv x :: st) := by
  obtain ⟨p, l, e, R, s, m, args, below, meth, c, nL, Q, A, D⟩ := κ
  obtain ⟨hx, hb, hml, hown, hts, hK, hA, hlk, hnL, hRm, hN⟩ := C
  intro H locs ls hP hD hS hR hl
  exact lv_if_gt hx hb hd ht (fun q => kt ((iff0_gt hx1).mp q) H locs ls hP hD hS hR hl) (fun q => kf (fun q2 => q ((iff0_gt hx1).mpr q2)) H locs ls hP hD hS hR hl)
theorem iff0_le {x : Int} (hx1 : inR x) : iZ x ≤ 0 ↔ x ≤ 0 := by rw [iZ_0]; exact (iZ_le hx1 in0)
theorem r_icmp_le {x y off : Int} {tgt : Nat} (C : CX κ cc own mL rm) (hd : decode cc pc = .ok (.if_icmp .le off, 3)) (ht : (pc : Int) + off = (tgt : Int)) (hx1 : inR x) (hy1 : inR y) (kt : x ≤ y → J κ k1 k2 a n σ L tgt st) (kf : ¬ x ≤ y → J κ k1 k2 a n σ L (pc + 3) st) : J κ k1 k2 a n σ L pc (iv y :: iv x :: st) := by
  obtain ⟨p, l, e, R, s, m, args, below, meth, c, nL, Q, A, D⟩ := κ
  obtain ⟨hx, hb, hml, hown, hts, hK, hA, hlk, hnL, hRm, hN⟩ := C
  intro H locs ls hP hD hS hR hl
  exact lv_icmp_le hx hb hd ht (fun q => kt ((iZ_le hx1 hy1).mp q) H locs ls hP hD hS hR hl) (fun q => kf (fun q2 => q ((iZ_le hx1 hy1).mpr q2)) H locs ls hP hD hS hR hl)
theorem r_if_le {x off : Int} {tgt : Nat} (C : CX κ cc own mL rm) (hd : decode cc pc = .ok (.ifCond .le off, 3)) (ht : (pc : Int) + off = (tgt : Int)) (hx1 : inR x) (kt : x ≤ 0 → J κ k1 k2 a n σ L tgt st) (kf : ¬ x ≤ 0 → J κ k1 k2 a n σ L (pc + 3) st) : J κ k1 k2 a n σ L pc (iv x :: st) := by
  obtain ⟨p, l, e, R, s, m, args, below, meth, c, nL, Q, A, D⟩ := κ
  obtain ⟨hx, hb, hml, hown, hts, hK, hA, hlk, hnL, hRm, hN⟩ := C
  intro H locs ls hP hD hS hR hl
  exact lv_if_le hx hb hd ht (fun q => kt ((iff0_le hx1).mp q) H locs ls hP hD hS hR hl) (fun q => kf (fun q2 => q ((iff0_le hx1).mpr q2)) H locs ls hP hD hS hR hl)
theorem r_ifnull {x : Nat} {off : Int} (C : CX κ cc own mL rm) (hd : decode cc pc = .ok (.ifnull off, 3)) (k : J κ k1 k2 a n σ L (pc + 3) st) : J κ k1 k2 a n σ L pc (.ref x :: st) := by
  obtain ⟨p, l, e, R, s, m, args, below, meth, c, nL, Q, A, D⟩ := κ
  obtain ⟨hx, hb, hml, hown, hts, hK, hA, hlk, hnL, hRm, hN⟩ := C
  intro H locs ls hP hD hS hR hl
  exact lv_ifnull hx hb hd (k H locs ls hP hD hS hR hl)
theorem r_ifnullN {off : Int} {tgt : Nat} (C : CX κ cc own mL rm) (hd : decode cc pc = .ok (.ifnull off, 3)) (ht : (pc : Int) + off = (tgt : Int)) (k : J κ k1 k2 a n σ L tgt st) : J κ k1 k2 a n σ L pc (.null :: st) := by
  obtain ⟨p, l, e, R, s, m, args, below, meth, c, nL, Q, A, D⟩ := κ
  obtain ⟨hx, hb, hml, hown, hts, hK, hA, hlk, hnL, hRm, hN⟩ := C
  intro H locs ls hP hD hS hR hl
  exact lv_ifnullN hx hb hd ht (k H locs ls hP hD hS hR hl)
theorem r_ifnonnull {x : Nat} {off : Int} {tgt : Nat} (C : CX κ cc own mL rm) (hd : decode cc pc = .ok (.ifnonnull off, 3)) (ht : (pc : Int) + off = (tgt : Int)) (k : J κ k1 k2 a n σ L tgt st) : J κ k1 k2 a n σ L pc (.ref x :: st) := by
  obtain ⟨p, l, e, R, s, m, args, below, meth, c, nL, Q, A, D⟩ := κ
  obtain ⟨hx, hb, hml, hown, hts, hK, hA, hlk, hnL, hRm, hN⟩ := C
  intro H locs ls hP hD hS hR hl
  exact lv_ifnonnull hx hb hd ht (k H locs ls hP hD hS hR hl)
theorem r_ifnonnullN {off : Int} (C : CX κ cc own mL rm) (hd : decode cc pc = .ok (.ifnonnull off, 3)) (k : J κ k1 k2 a n σ L (pc + 3) st) : J κ k1 k2 a n σ L pc (.null :: st) := by
  obtain ⟨p, l, e, R, s, m, args, below, meth, c, nL, Q, A, D⟩ := κ
  obtain ⟨hx, hb, hml, hown, hts, hK, hA, hlk, hnL, hRm, hN⟩ := C
  intro H locs ls hP hD hS hR hl
  exact lv_ifnonnullN hx hb hd (k H locs ls hP hD hS hR hl)
theorem r_null (C : CX κ cc own mL rm) (hd : decode cc pc = .ok (.aconst_null, 1)) (k : J κ k1 k2 a n σ L (pc + 1) (.null :: st)) : J κ k1 k2 a n σ L pc st := by
  obtain ⟨p, l, e, R, s, m, args, below, meth, c, nL, Q, A, D⟩ := κ
  obtain ⟨hx, hb, hml, hown, hts, hK, hA, hlk, hnL, hRm, hN⟩ := C
  intro H locs ls hP hD hS hR hl
  exact lv_null hx hb hd (k H locs ls hP hD hS hR hl)
theorem r_st (k : ∀ τ : ST, τ = σ → J κ k1 k2 a n τ L pc st) : J κ k1 k2 a n σ L pc st := k σ rfl
theorem r_tIn {x off dflt lo hi : Int} {offs : Array Int} {len tgt : Nat} (C : CX κ cc own mL rm) (hd : decode cc pc = .ok (.tableswitch dflt lo hi offs, len)) (hx1 : inR x) (h1 : ¬ x < lo) (h2 : ¬ hi < x) (ho : offs[(x - lo).toNat]? = some off) (ht : (pc : Int) + off = (tgt : Int)) (k : J κ k1 k2 a n σ L tgt st) : J κ k1 k2 a n σ L pc (iv x :: st) := by
  obtain ⟨p, l, e, R, s, m, args, below, meth, c, nL, Q, A, D⟩ := κ
  obtain ⟨hx, hb, hml, hown, hts, hK, hA, hlk, hnL, hRm, hN⟩ := C
  intro H locs ls hP hD hS hR hl
  have e1 := iZ_toInt hx1
  exact lv_tableIn hx hb hd (by rw [e1]; exact h1) (by rw [e1]; exact h2) (by rw [e1]; exact ho) ht (k H locs ls hP hD hS hR hl)
theorem r_tOut {x dflt lo hi : Int} {offs : Array Int} {len tgt : Nat} (C : CX κ cc own mL rm) (hd : decode cc pc = .ok (.tableswitch dflt lo hi offs, len)) (hx1 : inR x) (h : x < lo ∨ hi < x) (ht : (pc : Int) + dflt = (tgt : Int)) (k : J κ k1 k2 a n σ L tgt st) : J κ k1 k2 a n σ L pc (iv x :: st) := by
  obtain ⟨p, l, e, R, s, m, args, below, meth, c, nL, Q, A, D⟩ := κ
  obtain ⟨hx, hb, hml, hown, hts, hK, hA, hlk, hnL, hRm, hN⟩ := C
  intro H locs ls hP hD hS hR hl
  have e1 := iZ_toInt hx1
  exact lv_tableOut hx hb hd (by rw [e1]; exact h) ht (k H locs ls hP hD hS hR hl)
/-! fields -/
theorem r_get {ci N i k : Nat} {Cn : String} {T : u_T} {fs : List Value} {v : Value} (C : CX κ cc own mL rm) (hd : decode cc pc = .ok (.getfield i, 3)) (c0 : Nat) (hc : c0 < 38 + 5 * n) (he : ∀ D, cF D a n c0 (σ c0) = .inr (ci, fs)) (hcl : vwCl[ci]? = some (Cn, T, N)) (hin : ∀ w ∈ u_ws Cn T N, w ∈ lw_g) (hk : k < N) (hw : Cond.fieldLink own i (T k).1 (T k).2.1 (T k).2.2.1 ∈ lw_g) (hv : fs[k]? = some v) (kk : J κ k1 k2 a n σ L (pc + 3) (v :: st)) : J κ k1 k2 a n σ L pc (.ref (a c0) :: st) := by
  obtain ⟨p, l, e, R, s, m, args, below, meth, c, nL, Q, A, D⟩ := κ
  obtain ⟨hx, hb, hml, hown, hts, hK, hA, hlk, hnL, hRm, hN⟩ := C
  intro H locs ls hP hD hS hR hl
  have h1 : (wS D a n σ)[c0]? = some (a c0, .inr (ci, fs)) := by rw [wS_at hc, he]
  exact va_get hx hb hts hin hown hK hP c0 h1 hcl k hk (hts _ hw) (fun _ h => h) hv hd (kk H locs ls hP hD hS hR hl)
theorem r_getN {ci N i k : Nat} {Cn host : String} {T : u_T} {fs : List Value} {v : Value} (C : CX κ cc own mL rm) (hd : decode cc pc = .ok (.getfield i, 3)) (c0 : Nat) (hc : c0 < 38 + 5 * n) (he : ∀ D, cF D a n c0 (σ c0) = .inr (ci, fs)) (hcl : vwCl[ci]? = some (Cn, T, N)) (hin : ∀ w ∈ u_ws Cn T N, w ∈ lw_g) (hk : k < N) (hw : Cond.fieldLinkNest own i (T k).1 (T k).2.1 (T k).2.2.1 host ∈ nwL) (hv : fs[k]? = some v) (kk : J κ k1 k2 a n σ L (pc + 3) (v :: st)) : J κ k1 k2 a n σ L pc (.ref (a c0) :: st) := by
  obtain ⟨p, l, e, R, s, m, args, below, meth, c, nL, Q, A, D⟩ := κ
  obtain ⟨hx, hb, hml, hown, hts, hK, hA, hlk, hnL, hRm, hN⟩ := C
  intro H locs ls hP hD hS hR hl
  have h1 : (wS D a n σ)[c0]? = some (a c0, .inr (ci, fs)) := by rw [wS_at hc, he]
  exact va_getN hx hb hts hin hown hK hP c0 h1 hcl k hk (va_Nw.use rfl (hN _ hw)) (fun _ h => h) hv hd (kk H locs ls hP hD hS hR hl)
theorem r_put {ci N i k : Nat} {Cn : String} {T : u_T} {fs : List Value} {z : Int} {ty0 : Nat → FieldType} {ty : FieldType} (C : CX κ cc own mL rm) (hd : decode cc pc = .ok (.putfield i, 3)) (c0 : Nat) (hc : c0 < 38 + 5 * n) (he : ∀ D, cF D a n c0 (σ c0) = .inr (ci, fs)) (he2 : ∀ D, cF D a n c0 (fun j => if j = (k : Int) then z else σ c0 j) = .inr (ci, fs.set k (iv z))) (hcl : vwCl[ci]? = some (Cn, T, N)) (hin : ∀ w ∈ u_ws Cn T N, w ∈ lw_g) (hty : ∀ k, k < N → parseFieldDescriptor (T k).2.2.1 = some (ty0 k)) (hnm : ∀ a, a < N → ∀ b, b < N → a ≠ b → (T a).2.1 ≠ (T b).2.1) (hk : k < N) (hl0 : k < fs.length) (hfin : (T k).2.2.2 = false) (hdt : parseFieldDescriptor (T k).2.2.1 = some ty) (hn : narrow ty (iv z) = iv z) (hfit : fits ty (iv z) = true) (hw : Cond.fieldLink own i (T k).1 (T k).2.1 (T k).2.2.1 ∈ lw_g) (hz : inR z) (kk : J κ k1 k2 a n (up2 σ c0 k z) L (pc + 3) st) : J κ k1 k2 a n σ L pc (iv z :: .ref (a c0) :: st) := by
  obtain ⟨p, l, e, R, s, m, args, below, meth, c, nL, Q, A, D⟩ := κ
  obtain ⟨hx, hb, hml, hown, hts, hK, hA, hlk, hnL, hRm, hN⟩ := C
  intro H locs ls hP hD hS hR hl
  have h1 : (wS D a n σ)[c0]? = some (a c0, .inr (ci, fs)) := by rw [wS_at hc, he]
  refine va_put hx hb hts hin ty0 hty hnm hown hK hP hD hS c0 h1 hcl k hk (hts _ hw) (fun _ h => h) hfin hdt hn hfit hl0 hd (fun H1 locs1 hP1 hD1 hS1 => ?_)
  rw [wS_set hc (he2 D).symm] at hP1 hD1
  exact kk H1 locs1 ls hP1 hD1 hS1 (up2_in hR hz) hl
theorem r_putN {ci N i k : Nat} {Cn host : String} {T : u_T} {fs : List Value} {z : Int} {ty0 : Nat → FieldType} {ty : FieldType} (C : CX κ cc own mL rm) (hd : decode cc pc = .ok (.putfield i, 3)) (c0 : Nat) (hc : c0 < 38 + 5 * n) (he : ∀ D, cF D a n c0 (σ c0) = .inr (ci, fs)) (he2 : ∀ D, cF D a n c0 (fun j => if j = (k : Int) then z else σ c0 j) = .inr (ci, fs.set k (iv z))) (hcl : vwCl[ci]? = some (Cn, T, N)) (hin : ∀ w ∈ u_ws Cn T N, w ∈ lw_g) (hty : ∀ k, k < N → parseFieldDescriptor (T k).2.2.1 = some (ty0 k)) (hnm : ∀ a, a < N → ∀ b, b < N → a ≠ b → (T a).2.1 ≠ (T b).2.1) (hk : k < N) (hl0 : k < fs.length) (hfin : (T k).2.2.2 = false) (hdt : parseFieldDescriptor (T k).2.2.1 = some ty) (hn : narrow ty (iv z) = iv z) (hfit : fits ty (iv z) = true) (hw : Cond.fieldLinkNest own i (T k).1 (T k).2.1 (T k).2.2.1 host ∈ nwL) (hz : inR z) (kk : J κ k1 k2 a n (up2 σ c0 k z) L (pc + 3) st) : J κ k1 k2 a n σ L pc (iv z :: .ref (a c0) :: st) := by
  obtain ⟨p, l, e, R, s, m, args, below, meth, c, nL, Q, A, D⟩ := κ
  obtain ⟨hx, hb, hml, hown, hts, hK, hA, hlk, hnL, hRm, hN⟩ := C
  intro H locs ls hP hD hS hR hl
  have h1 : (wS D a n σ)[c0]? = some (a c0, .inr (ci, fs)) := by rw [wS_at hc, he]
  refine va_putN hx hb hts hin ty0 hty hnm hown hK hP hD hS c0 h1 hcl k hk (va_Nw.use rfl (hN _ hw)) (fun _ h => h) hfin hdt hn hfit hl0 hd (fun H1 locs1 hP1 hD1 hS1 => ?_)
  rw [wS_set hc (he2 D).symm] at hP1 hD1
  exact kk H1 locs1 ls hP1 hD1 hS1 (up2_in hR hz) hl
/-! arrays -/
theorem r_iald {i : Int} (len : Nat) {c0 : Nat} (C : CX κ cc own mL rm) (hd : decode cc pc = .ok (.iaload, 1)) (hc : c0 < 38 + 5 * n) (he : ∀ D : va_G, cF D a n c0 (σ c0) = .inl (D.1 7, len, .inl (fun j => iZ (σ c0 j)))) (h0 : 0 ≤ i) (h1 : i < len) (hlen : len < 2147483648) (kk : inR (σ c0 i) → J κ k1 k2 a n σ L (pc + 1) (iv (σ c0 i) :: st)) : J κ k1 k2 a n σ L pc (iv i :: .ref (a c0) :: st) := by
  obtain ⟨p, l, e, R, s, m, args, below, meth, c, nL, Q, A, D⟩ := κ
  obtain ⟨hx, hb, hml, hown, hts, hK, hA, hlk, hnL, hRm, hN⟩ := C
  intro H locs ls hP hD hS hR hl
  have e1 : (wS D a n σ)[c0]? = some (a c0, .inl (D.1 7, len, .inl (fun j : Nat => iZ (σ c0 j)))) := by rw [wS_at hc, he]
  refine va_iald hx hb hK hP c0 0 e1 rfl (iZ_vpin h0 h1 hlen) hd ?_
  show W _ _ _ _ _ _ _ _ _ _ _ _ _ _ _ (F0 _ _ _ (.int (iZ (σ c0 ((iZ i).toNatClampNeg : Int))) :: _))
  rw [iZ_nat ⟨by omega, by omega⟩ h0]
  exact kk (hR c0 i) H locs ls hP hD hS hR hl
theorem r_zald {i : Int} (len : Nat) {c0 : Nat} (C : CX κ cc own mL rm) (hd : decode cc pc = .ok (.baload, 1)) (hc : c0 < 38 + 5 * n) (he : ∀ D : va_G, cF D a n c0 (σ c0) = .inl (D.1 8, len, .inl (fun j => iZ (σ c0 j)))) (h0 : 0 ≤ i) (h1 : i < len) (hlen : len < 2147483648) (kk : inR (σ c0 i) → J κ k1 k2 a n σ L (pc + 1) (iv (σ c0 i) :: st)) : J κ k1 k2 a n σ L pc (iv i :: .ref (a c0) :: st) := by
  obtain ⟨p, l, e, R, s, m, args, below, meth, c, nL, Q, A, D⟩ := κ
  obtain ⟨hx, hb, hml, hown, hts, hK, hA, hlk, hnL, hRm, hN⟩ := C
  intro H locs ls hP hD hS hR hl
  have e1 : (wS D a n σ)[c0]? = some (a c0, .inl (D.1 8, len, .inl (fun j : Nat => iZ (σ c0 j)))) := by rw [wS_at hc, he]
  refine va_zald hx hb hK hP c0 1 e1 rfl (iZ_vpin h0 h1 hlen) hd ?_
  show W _ _ _ _ _ _ _ _ _ _ _ _ _ _ _ (F0 _ _ _ (.int (iZ (σ c0 ((iZ i).toNatClampNeg : Int))) :: _))
  rw [iZ_nat ⟨by omega, by omega⟩ h0]
  exact kk (hR c0 i) H locs ls hP hD hS hR hl
theorem upd_iZ {f : Int → Int} {i z : Int} (h0 : 0 ≤ i) (h1 : i < 2147483648) : upd (fun j : Nat => iZ (f j)) (iZ i).toNatClampNeg (iZ z) = (fun j : Nat => iZ (if (j : Int) = i then z else f j)) := by
  funext j
  have e := iZ_nat (z := i) ⟨by omega, h1⟩ h0
  by_cases hj : j = (iZ i).toNatClampNeg
  · have : (j : Int) = i := by omega
    subst hj
    rw [pk_us]
    simp only [this, if_true]
  · have : ¬ (j : Int) = i := by omega
    rw [pk_un hj]
    simp only [this, if_false]
theorem r_iast {i z : Int} (len : Nat) {c0 : Nat} (C : CX κ cc own mL rm) (hd : decode cc pc = .ok (.iastore, 1)) (hc : c0 < 38 + 5 * n) (he : ∀ (D : va_G) (f : Int → Int), cF D a n c0 f = .inl (D.1 7, len, .inl (fun j => iZ (f j)))) (h0 : 0 ≤ i) (h1 : i < len) (hlen : len < 2147483648) (hz : inR z) (kk : J κ k1 k2 a n (up2 σ c0 i z) L (pc + 1) st) : J κ k1 k2 a n σ L pc (iv z :: iv i :: .ref (a c0) :: st) := by
  obtain ⟨p, l, e, R, s, m, args, below, meth, c, nL, Q, A, D⟩ := κ
  obtain ⟨hx, hb, hml, hown, hts, hK, hA, hlk, hnL, hRm, hN⟩ := C
  intro H locs ls hP hD hS hR hl
  have e1 : (wS D a n σ)[c0]? = some (a c0, .inl (D.1 7, len, .inl (fun j : Nat => iZ (σ c0 j)))) := by rw [wS_at hc, he]
  refine va_iast hx hb hK hP hD hS c0 0 e1 rfl (iZ_vpin h0 h1 hlen) hd (fun H1 locs1 hP1 hD1 hS1 => ?_)
  rw [upd_iZ h0 (by omega), wS_set (k := i) (z := z) hc (he D _).symm] at hP1 hD1
  exact kk H1 locs1 ls hP1 hD1 hS1 (up2_in hR hz) hl
theorem r_zast {i z : Int} (len : Nat) {c0 : Nat} (C : CX κ cc own mL rm) (hd : decode cc pc = .ok (.bastore, 1)) (hc : c0 < 38 + 5 * n) (he : ∀ (D : va_G) (f : Int → Int), cF D a n c0 f = .inl (D.1 8, len, .inl (fun j => iZ (f j)))) (h0 : 0 ≤ i) (h1 : i < len) (hlen : len < 2147483648) (hz : vp_nar .boolean (iZ z) = iZ z) (hz2 : inR z) (kk : J κ k1 k2 a n (up2 σ c0 i z) L (pc + 1) st) : J κ k1 k2 a n σ L pc (iv z :: iv i :: .ref (a c0) :: st) := by
  obtain ⟨p, l, e, R, s, m, args, below, meth, c, nL, Q, A, D⟩ := κ
  obtain ⟨hx, hb, hml, hown, hts, hK, hA, hlk, hnL, hRm, hN⟩ := C
  intro H locs ls hP hD hS hR hl
  have e1 : (wS D a n σ)[c0]? = some (a c0, .inl (D.1 8, len, .inl (fun j : Nat => iZ (σ c0 j)))) := by rw [wS_at hc, he]
  refine va_zast hx hb hK hP hD hS c0 1 e1 rfl (iZ_vpin h0 h1 hlen) hd (fun H1 locs1 hP1 hD1 hS1 => ?_)
  rw [hz, upd_iZ h0 (by omega), wS_set (k := i) (z := z) hc (he D _).symm] at hP1 hD1
  exact kk H1 locs1 ls hP1 hD1 hS1 (up2_in hR hz2) hl
theorem r_aald {i : Int} (C : CX κ cc own mL rm) (hd : decode cc pc = .ok (.aaload, 1)) (h0 : 0 ≤ i) (h1 : i < 6) (hi : i < n) (kk : J κ k1 k2 a n σ L (pc + 1) (.ref (a (38 + 5 * i.toNat)) :: st)) : J κ k1 k2 a n σ L pc (iv i :: .ref (a 8) :: st) := by
  obtain ⟨p, l, e, R, s, m, args, below, meth, c, nL, Q, A, D⟩ := κ
  obtain ⟨hx, hb, hml, hown, hts, hK, hA, hlk, hnL, hRm, hN⟩ := C
  intro H locs ls hP hD hS hR hl
  have e1 : (wS D a n σ)[8]? = some (a 8, .inl (D.1 9, 6, .inr (.inr (.inr (.inr (fun j => if j < n then some (a (38 + 5 * j)) else none)))))) := by rw [wS_at (by omega)]; rfl
  refine va_aldq (C := "PartRoom$Voice") hx hb hK hP 8 2 e1 rfl (iZ_vpin h0 h1 (by omega)) hd ?_
  have e2 := iZ_nat (z := i) ⟨by omega, by omega⟩ h0
  have e3 : (iZ i).toNatClampNeg = i.toNat := by omega
  show W _ _ _ _ _ _ _ _ _ _ _ _ _ _ _ (F0 _ _ _ (va_rf (if (iZ i).toNatClampNeg < n then some (a (38 + 5 * (iZ i).toNatClampNeg)) else none) :: _))
  rw [e3, if_pos (by omega)]
  exact kk H locs ls hP hD hS hR hl
end JR
end
section
def PreW (D : va_G) (a : Nat → Nat) (n : Nat) (σ : ST) (sz : Nat) (av : List Value) : Array Value → State → Prop := va_Pc av (fun U => U.heap.size = sz ∧ va_P D vwCl (wS D a n σ) U.heap ∧ va_K D vwCl (tysD D) U ∧ va_D (fun _ => True) (wS D a n σ) ∧ NW U)
def UW (D : va_G) (a : Nat → Nat) (n : Nat) (A : Nat → Prop) (σ : ST) (t : State) : Prop := va_P D vwCl (wS D a n σ) t.heap ∧ va_D A (wS D a n σ) ∧ ∀ c j, inR (σ c j)
/-- a method's contract: it answers an int -/
def MI (y : MethodName) (cc : ByteArray) (mL : Nat) (ret : FieldType) (rm : Room) (a : Nat → Nat) (n : Nat) (σ : ST) (av : List Value) (post : Int → ST → Prop) : Prop :=
  ∀ (l : Launch) (D : va_G) (sz : Nat), (∀ c j, inR (σ c j)) → Met l y (Cond.code y cc mL (some ret) :: lw_g) rm (PreW D a n σ sz av) (va_Qi (S := Int × ST) (fun r u => r = iZ u.1 ∧ post u.1 u.2) (fun u t => UW D a n (va_A (wS D a n σ) sz) u.2 t) (va_A (wS D a n σ) sz)) 0 0 (va_A (wS D a n σ) sz)
/-- it answers nothing -/
def MV (y : MethodName) (cc : ByteArray) (mL : Nat) (rm : Room) (a : Nat → Nat) (n : Nat) (σ : ST) (av : List Value) (post : ST → Prop) : Prop :=
  ∀ (l : Launch) (D : va_G) (sz : Nat), (∀ c j, inR (σ c j)) → Met l y (Cond.code y cc mL none :: lw_g) rm (PreW D a n σ sz av) (va_Qv (S := ST) (fun u => post u) (fun u t => UW D a n (va_A (wS D a n σ) sz) u t) (va_A (wS D a n σ) sz)) 0 0 (va_A (wS D a n σ) sz)
/-- it answers a voice or null, and changes nothing -/
def MO (y : MethodName) (cc : ByteArray) (mL : Nat) (ret : FieldType) (rm : Room) (a : Nat → Nat) (n : Nat) (σ : ST) (av : List Value) (post : Option Nat → Prop) : Prop :=
  ∀ (l : Launch) (D : va_G) (sz : Nat), (∀ c j, inR (σ c j)) → Met l y (Cond.code y cc mL (some ret) :: lw_g) rm (PreW D a n σ sz av) (va_Qq (S := Unit) (fun r _ => post r) (fun _ t => UW D a n (va_A (wS D a n σ) sz) σ t) (va_A (wS D a n σ) sz)) 0 0 (va_A (wS D a n σ) sz)
section ENT
variable {y : MethodName} {cc : ByteArray} {mL : Nat} {rm : Room} {a : Nat → Nat} {n : Nat} {σ : ST} {av : List Value} {own : String}
theorem MI.of {post : Int → ST → Prop} (hy : plainName y.cls = true) (hown : y.cls = own) (hL : (lg_sl av).length ≤ mL) (body : ∀ κ : KT, CX κ cc own mL rm → (∀ (σ' : ST) (L : List (Nat × Value)) (pc : Nat) (r : Int), decode cc pc = .ok (.ireturn, 1) → post r σ' → J κ 0 0 a n σ' L pc [iv r]) → J κ 0 0 a n σ (lv_args 0 av) 0 []) : MI y cc mL .int rm a n σ av post := by
  intro l D sz hR
  refine Met.ofW (cc := cc) (maxL := mL) (ret := some .int) hy rfl ?_
  intro p e s m args below meth c s₁ B hml hv
  obtain ⟨rfl, hsz, hP, hK, hD0, hN⟩ := hv
  subst hsz
  subst hown
  have hD := hD0.self (sz := s.heap.size)
  have key := body (p, l, e, rm, s, m, av.toArray, below, meth, c, mL, MQ below (va_Qi (S := Int × ST) (fun r u => r = iZ u.1 ∧ post u.1 u.2) (fun u t => UW D a n (va_A (wS D a n σ) s.heap.size) u.2 t) (va_A (wS D a n σ) s.heap.size)) av.toArray s 0 0 (va_A (wS D a n σ) s.heap.size), va_A (wS D a n σ) s.heap.size, D) ⟨B.exec, B.bytes, hml, findClass_of_methodNamed B.named, fun w hw => atoms_spec B.pre w (List.mem_cons_of_mem _ hw), hK, fun q h => Or.inr h, B.notSynchronized, rfl, rfl, hN⟩ (by
    intro σ' L pc r hdec hpost H locs ls hP' hD' hS' hR' hl'
    exact W.iret B.exec B.bytes B.returns (fun t ht hW => ⟨⟨iZ r, (r, σ'), rfl, ⟨rfl, hpost⟩, by rw [ht]; exact hP', hD', hR'⟩, hS'.F ht⟩) hS'.2.2 hdec B.notSynchronized)
  rw [lg_entry_eq]
  exact key s.heap [] _ hP hD va_S.rf hR (lv_entry av hL)
theorem nar_b {r : Int} (h : r = 0 ∨ r = 1) : narrow .boolean (iv r) = iv r := by
  rcases h with rfl | rfl <;> decide +kernel
theorem MI.ofB {post : Int → ST → Prop} (hy : plainName y.cls = true) (hown : y.cls = own) (hL : (lg_sl av).length ≤ mL) (body : ∀ κ : KT, CX κ cc own mL rm → (∀ (σ' : ST) (L : List (Nat × Value)) (pc : Nat) (r : Int), decode cc pc = .ok (.ireturn, 1) → (r = 0 ∨ r = 1) → post r σ' → J κ 0 0 a n σ' L pc [iv r]) → J κ 0 0 a n σ (lv_args 0 av) 0 []) : MI y cc mL .boolean rm a n σ av post := by
  intro l D sz hR
  refine Met.ofW (cc := cc) (maxL := mL) (ret := some .boolean) hy rfl ?_
  intro p e s m args below meth c s₁ B hml hv
  obtain ⟨rfl, hsz, hP, hK, hD0, hN⟩ := hv
  subst hsz
  subst hown
  have hD := hD0.self (sz := s.heap.size)
  have key := body (p, l, e, rm, s, m, av.toArray, below, meth, c, mL, MQ below (va_Qi (S := Int × ST) (fun r u => r = iZ u.1 ∧ post u.1 u.2) (fun u t => UW D a n (va_A (wS D a n σ) s.heap.size) u.2 t) (va_A (wS D a n σ) s.heap.size)) av.toArray s 0 0 (va_A (wS D a n σ) s.heap.size), va_A (wS D a n σ) s.heap.size, D) ⟨B.exec, B.bytes, hml, findClass_of_methodNamed B.named, fun w hw => atoms_spec B.pre w (List.mem_cons_of_mem _ hw), hK, fun q h => Or.inr h, B.notSynchronized, rfl, rfl, hN⟩ (by
    intro σ' L pc r hdec hr hpost H locs ls hP' hD' hS' hR' hl'
    exact W.zret B.exec B.bytes B.returns (nar_b hr) (fun t ht hW => ⟨⟨iZ r, (r, σ'), rfl, ⟨rfl, hpost⟩, by rw [ht]; exact hP', hD', hR'⟩, hS'.F ht⟩) hS'.2.2 hdec B.notSynchronized)
  rw [lg_entry_eq]
  exact key s.heap [] _ hP hD va_S.rf hR (lv_entry av hL)
theorem MV.of {post : ST → Prop} (hy : plainName y.cls = true) (hown : y.cls = own) (hL : (lg_sl av).length ≤ mL) (body : ∀ κ : KT, CX κ cc own mL rm → (∀ (σ' : ST) (L : List (Nat × Value)) (pc : Nat), decode cc pc = .ok (.return_, 1) → post σ' → J κ 0 0 a n σ' L pc []) → J κ 0 0 a n σ (lv_args 0 av) 0 []) : MV y cc mL rm a n σ av post := by
  intro l D sz hR
  refine Met.ofW (cc := cc) (maxL := mL) (ret := none) hy rfl ?_
  intro p e s m args below meth c s₁ B hml hv
  obtain ⟨rfl, hsz, hP, hK, hD0, hN⟩ := hv
  subst hsz
  subst hown
  have hD := hD0.self (sz := s.heap.size)
  have key := body (p, l, e, rm, s, m, av.toArray, below, meth, c, mL, MQ below (va_Qv (S := ST) (fun u => post u) (fun u t => UW D a n (va_A (wS D a n σ) s.heap.size) u t) (va_A (wS D a n σ) s.heap.size)) av.toArray s 0 0 (va_A (wS D a n σ) s.heap.size), va_A (wS D a n σ) s.heap.size, D) ⟨B.exec, B.bytes, hml, findClass_of_methodNamed B.named, fun w hw => atoms_spec B.pre w (List.mem_cons_of_mem _ hw), hK, fun q h => Or.inr h, B.notSynchronized, rfl, rfl, hN⟩ (by
    intro σ' L pc hdec hpost H locs ls hP' hD' hS' hR' hl'
    exact W.vret B.exec B.bytes B.returns (fun t ht hW => ⟨⟨σ', rfl, hpost, by rw [ht]; exact hP', hD', hR'⟩, hS'.F ht⟩) hS'.2.2 hdec B.notSynchronized)
  rw [lg_entry_eq]
  exact key s.heap [] _ hP hD va_S.rf hR (lv_entry av hL)
theorem MO.of {post : Option Nat → Prop} {nm : String} (hy : plainName y.cls = true) (hown : y.cls = own) (hL : (lg_sl av).length ≤ mL) (body : ∀ κ : KT, CX κ cc own mL rm → (∀ (L : List (Nat × Value)) (pc : Nat) (r : Option Nat), decode cc pc = .ok (.areturn, 1) → post r → J κ 0 0 a n σ L pc [va_rf r]) → J κ 0 0 a n σ (lv_args 0 av) 0 []) : MO y cc mL (.object nm) rm a n σ av post := by
  intro l D sz hR
  refine Met.ofW (cc := cc) (maxL := mL) (ret := some (.object nm)) hy rfl ?_
  intro p e s m args below meth c s₁ B hml hv
  obtain ⟨rfl, hsz, hP, hK, hD0, hN⟩ := hv
  subst hsz
  subst hown
  have hD := hD0.self (sz := s.heap.size)
  have key := body (p, l, e, rm, s, m, av.toArray, below, meth, c, mL, MQ below (va_Qq (S := Unit) (fun r _ => post r) (fun _ t => UW D a n (va_A (wS D a n σ) s.heap.size) σ t) (va_A (wS D a n σ) s.heap.size)) av.toArray s 0 0 (va_A (wS D a n σ) s.heap.size), va_A (wS D a n σ) s.heap.size, D) ⟨B.exec, B.bytes, hml, findClass_of_methodNamed B.named, fun w hw => atoms_spec B.pre w (List.mem_cons_of_mem _ hw), hK, fun q h => Or.inr h, B.notSynchronized, rfl, rfl, hN⟩ (by
    intro L pc r hdec hpost H locs ls hP' hD' hS' hR' hl'
    exact W.aret (v := va_rf r) B.exec B.bytes B.returns (Or.inl ⟨_, rfl⟩) (va_rf_or r) (fun t ht hW => ⟨⟨r, (), rfl, hpost, by rw [ht]; exact hP', hD', hR'⟩, hS'.F ht⟩) hS'.2.2 hdec B.notSynchronized)
  rw [lg_entry_eq]
  exact key s.heap [] _ hP hD va_S.rf hR (lv_entry av hL)
end ENT
def LKV (own : String) (idx : Nat) (y : MethodName) (cc : ByteArray) (mL : Nat) (ret : Option FieldType) (na : Nat) : Prop :=
  Cond.methodLink own idx y ∈ lw_g ∧ Cond.instanceMethod y ∈ lw_g ∧ Cond.selects y.cls y y ∈ lw_g ∧ Cond.initialized y.cls ∈ lw_g ∧ Cond.code y cc mL ret ∈ lw_g ∧ (y.cls ≠ "java/lang/invoke/MethodHandle" ∧ y.cls ≠ "java/lang/invoke/VarHandle" ∧ (parseMethodDescriptor y.desc).map (fun d => d.parameters.length) = some na)
def LKS (own : String) (idx : Nat) (y : MethodName) (cc : ByteArray) (mL : Nat) (ret : Option FieldType) (na : Nat) : Prop :=
  Cond.methodLink own idx y ∈ lw_g ∧ Cond.static y ∈ lw_g ∧ Cond.initialized y.cls ∈ lw_g ∧ Cond.code y cc mL ret ∈ lw_g ∧ (y.cls ≠ "java/lang/invoke/MethodHandle" ∧ y.cls ≠ "java/lang/invoke/VarHandle" ∧ (parseMethodDescriptor y.desc).map (fun d => d.parameters.length) = some na)
abbrev RM (f q : Nat) : Room := { frames := f, cells := 0, slots := 0, locals := q }
def fitRoom (rm' rm : Room) (mL' : Nat) : Prop := rm'.cells = 0 ∧ rm'.slots = 0 ∧ rm'.frames + 1 ≤ rm.frames ∧ 8 + (mL' + 11) + rm'.locals ≤ rm.locals
theorem PreW_blind {D : va_G} {a : Nat → Nat} {n : Nat} {σ : ST} {sz : Nat} {av : List Value} : FrameBlind (PreW D a n σ sz av) := by
  intro v U g mk q
  obtain ⟨q0, q1, qP, qK, qD, qN⟩ := q
  exact ⟨q0, q1, qP, va_K.moved (u := U) (U := U.calling g mk v) (Vm.Alike.refl U.vm) qK, qD, qN.same rfl⟩
theorem wS_free {D : va_G} {a : Nat → Nat} {n : Nat} {σ : ST} {A : Nat → Prop} {H0 H : Heap} {locs : List Loc} (hD : va_D A (wS D a n σ)) (hS : va_S A H0 H locs) (hA : ∀ q : Nat, H0.size ≤ q → A q) : ∀ q, va_A (wS D a n σ) H.size q → A q := by
  intro q h
  rcases h with ⟨k, e, h⟩ | h
  · exact hD.2 k (q, e) h
  · exact hA q (Nat.le_trans hS.1 h)
section CL
variable {κ : KT} {cc : ByteArray} {own : String} {mL : Nat} {rm : Room} {k1 k2 : Nat} {a : Nat → Nat} {n : Nat} {σ : ST} {L : List (Nat × Value)} {pc : Nat} {rest As : List Value}
theorem r_callI {y : MethodName} {cc' : ByteArray} {mL' na idx ci : Nat} {ret : FieldType} {rm' : Room} {post : Int → ST → Prop} {fs : List Value} {q : vw_C} (c0 : Nat) (C : CX κ cc own mL rm) (hd : decode cc pc = .ok (.invokevirtual idx, 3)) (LK : LKV own idx y cc' mL' (some ret) na) (hM : MI y cc' mL' ret rm' a n σ (.ref (a c0) :: As) post) (hroom : fitRoom rm' rm mL') (hk : k1 ≤ rm.cells ∧ k2 ≤ rm.slots) (hc : c0 < 38 + 5 * n) (he : ∀ D, cF D a n c0 (σ c0) = .inr (ci, fs)) (hcl : vwCl[ci]? = some q) (hq : q.1 = y.cls) (hn : As.length = na) (hW : (rest.map fun v => v.category).sum ≤ 8) (kk : ∀ (r : Int) (σ' : ST), post r σ' → J κ k1 k2 a n σ' L (pc + 3) (iv r :: rest)) : J κ k1 k2 a n σ L pc (As.reverse ++ .ref (a c0) :: rest) := by
  obtain ⟨p, l, e, R, s, m, args, below, meth, c, nL, Q, A, D⟩ := κ
  obtain ⟨hx, hb, hml, hown, hts, hK, hA, hlk, hnL, hRm, hN⟩ := C
  obtain ⟨w1, w2, w3, w4, w5, w6⟩ := LK
  obtain ⟨g1, g2, g3, g4⟩ := hroom
  intro H locs ls hP hD hS hR hl
  subst hRm
  have h1 : (wS D a n σ)[c0]? = some (a c0, .inr (ci, fs)) := by rw [wS_at hc, he]
  have hF := wS_free hD hS hA
  have hrec := va_recv hK hP hcl h1
  rw [hq] at hrec
  refine va_calli (va_runV (As := As) (rest := rest) (C := y.cls) ⟨hx, hb, hml, hown, hts⟩ (hM l D H.size hR) ⟨callB_of na hts (tb_in w5) rfl g1 g2 (hts _ w4) (hts _ w1) w6 ⟨g3, g4⟩, hts _ w2, hts _ w3⟩ ⟨PreW_blind, hrec, fun U hU hW => ⟨rfl, by rw [hU], by rw [hU]; exact hP, va_K.moved hW.alike hK, hD.weaken (fun _ _ _ _ => trivial), hN.warm hW⟩⟩ rfl hn hl.1 rfl (lv_room hW) hd ⟨hk.1, hk.2⟩) hS (fun q _ h => hF q h) hF (fun r u t H1 locs1 ht hvm hw hB hz1 hk1 hS1 => ?_)
  obtain ⟨r', σ'⟩ := u
  obtain ⟨hw1, hw2⟩ := hw
  obtain ⟨hP1, hD1, hR1⟩ := hB
  rw [ht] at hP1
  rw [hw1]
  exact kk r' σ' hw2 H1 locs1 ls hP1 (hD1.weaken (fun _ q _ h => hF _ h)) hS1 hR1 hl
theorem r_callV {y : MethodName} {cc' : ByteArray} {mL' na idx ci : Nat} {rm' : Room} {post : ST → Prop} {fs : List Value} {q : vw_C} (c0 : Nat) (C : CX κ cc own mL rm) (hd : decode cc pc = .ok (.invokevirtual idx, 3)) (LK : LKV own idx y cc' mL' none na) (hM : MV y cc' mL' rm' a n σ (.ref (a c0) :: As) post) (hroom : fitRoom rm' rm mL') (hk : k1 ≤ rm.cells ∧ k2 ≤ rm.slots) (hc : c0 < 38 + 5 * n) (he : ∀ D, cF D a n c0 (σ c0) = .inr (ci, fs)) (hcl : vwCl[ci]? = some q) (hq : q.1 = y.cls) (hn : As.length = na) (hW : (rest.map fun v => v.category).sum ≤ 8) (kk : ∀ (σ' : ST), post σ' → J κ k1 k2 a n σ' L (pc + 3) rest) : J κ k1 k2 a n σ L pc (As.reverse ++ .ref (a c0) :: rest) := by
  obtain ⟨p, l, e, R, s, m, args, below, meth, c, nL, Q, A, D⟩ := κ
  obtain ⟨hx, hb, hml, hown, hts, hK, hA, hlk, hnL, hRm, hN⟩ := C
  obtain ⟨w1, w2, w3, w4, w5, w6⟩ := LK
  obtain ⟨g1, g2, g3, g4⟩ := hroom
  intro H locs ls hP hD hS hR hl
  subst hRm
  have h1 : (wS D a n σ)[c0]? = some (a c0, .inr (ci, fs)) := by rw [wS_at hc, he]
  have hF := wS_free hD hS hA
  have hrec := va_recv hK hP hcl h1
  rw [hq] at hrec
  refine va_callv (va_runV (As := As) (rest := rest) (C := y.cls) ⟨hx, hb, hml, hown, hts⟩ (hM l D H.size hR) ⟨callB_of na hts (tb_in w5) rfl g1 g2 (hts _ w4) (hts _ w1) w6 ⟨g3, g4⟩, hts _ w2, hts _ w3⟩ ⟨PreW_blind, hrec, fun U hU hW => ⟨rfl, by rw [hU], by rw [hU]; exact hP, va_K.moved hW.alike hK, hD.weaken (fun _ _ _ _ => trivial), hN.warm hW⟩⟩ rfl hn hl.1 rfl (lv_room hW) hd ⟨hk.1, hk.2⟩) hS (fun q _ h => hF q h) hF (fun u t H1 locs1 ht hvm hw hB hz1 hk1 hS1 => ?_)
  obtain ⟨hP1, hD1, hR1⟩ := hB
  rw [ht] at hP1
  exact kk u hw H1 locs1 ls hP1 (hD1.weaken (fun _ q _ h => hF _ h)) hS1 hR1 hl
theorem r_callO {y : MethodName} {cc' : ByteArray} {mL' na idx ci : Nat} {ret : FieldType} {rm' : Room} {post : Option Nat → Prop} {fs : List Value} {q : vw_C} (c0 : Nat) (C : CX κ cc own mL rm) (hd : decode cc pc = .ok (.invokevirtual idx, 3)) (LK : LKV own idx y cc' mL' (some ret) na) (hM : MO y cc' mL' ret rm' a n σ (.ref (a c0) :: As) post) (hroom : fitRoom rm' rm mL') (hk : k1 ≤ rm.cells ∧ k2 ≤ rm.slots) (hc : c0 < 38 + 5 * n) (he : ∀ D, cF D a n c0 (σ c0) = .inr (ci, fs)) (hcl : vwCl[ci]? = some q) (hq : q.1 = y.cls) (hn : As.length = na) (hW : (rest.map fun v => v.category).sum ≤ 8) (kk : ∀ (r : Option Nat), post r → J κ k1 k2 a n σ L (pc + 3) (va_rf r :: rest)) : J κ k1 k2 a n σ L pc (As.reverse ++ .ref (a c0) :: rest) := by
  obtain ⟨p, l, e, R, s, m, args, below, meth, c, nL, Q, A, D⟩ := κ
  obtain ⟨hx, hb, hml, hown, hts, hK, hA, hlk, hnL, hRm, hN⟩ := C
  obtain ⟨w1, w2, w3, w4, w5, w6⟩ := LK
  obtain ⟨g1, g2, g3, g4⟩ := hroom
  intro H locs ls hP hD hS hR hl
  subst hRm
  have h1 : (wS D a n σ)[c0]? = some (a c0, .inr (ci, fs)) := by rw [wS_at hc, he]
  have hF := wS_free hD hS hA
  have hrec := va_recv hK hP hcl h1
  rw [hq] at hrec
  refine va_callq (va_runV (As := As) (rest := rest) (C := y.cls) ⟨hx, hb, hml, hown, hts⟩ (hM l D H.size hR) ⟨callB_of na hts (tb_in w5) rfl g1 g2 (hts _ w4) (hts _ w1) w6 ⟨g3, g4⟩, hts _ w2, hts _ w3⟩ ⟨PreW_blind, hrec, fun U hU hW => ⟨rfl, by rw [hU], by rw [hU]; exact hP, va_K.moved hW.alike hK, hD.weaken (fun _ _ _ _ => trivial), hN.warm hW⟩⟩ rfl hn hl.1 rfl (lv_room hW) hd ⟨hk.1, hk.2⟩) hS (fun q _ h => hF q h) hF (fun r u t H1 locs1 ht hvm hw hB hz1 hk1 hS1 => ?_)
  obtain ⟨hP1, hD1, hR1⟩ := hB
  rw [ht] at hP1
  exact kk r hw H1 locs1 ls hP1 (hD1.weaken (fun _ q _ h => hF _ h)) hS1 hR1 hl
theorem r_callS {y : MethodName} {cc' : ByteArray} {mL' na idx : Nat} {ret : FieldType} {rm' : Room} {post : Int → ST → Prop} (C : CX κ cc own mL rm) (hd : decode cc pc = .ok (.invokestatic idx, 3)) (LK : LKS own idx y cc' mL' (some ret) na) (hM : MI y cc' mL' ret rm' a n σ As post) (hroom : fitRoom rm' rm mL') (hk : k1 ≤ rm.cells ∧ k2 ≤ rm.slots) (hn : As.length = na) (hW : (rest.map fun v => v.category).sum ≤ 8) (kk : ∀ (r : Int) (σ' : ST), post r σ' → J κ k1 k2 a n σ' L (pc + 3) (iv r :: rest)) : J κ k1 k2 a n σ L pc (As.reverse ++ rest) := by
  obtain ⟨p, l, e, R, s, m, args, below, meth, c, nL, Q, A, D⟩ := κ
  obtain ⟨hx, hb, hml, hown, hts, hK, hA, hlk, hnL, hRm, hN⟩ := C
  obtain ⟨w1, w2, w4, w5, w6⟩ := LK
  obtain ⟨g1, g2, g3, g4⟩ := hroom
  intro H locs ls hP hD hS hR hl
  subst hRm
  have hF := wS_free hD hS hA
  refine va_calli (va_runS (As := As) (rest := rest) ⟨hx, hb, hml, hown, hts⟩ (hM l D H.size hR) ⟨callB_of na hts (tb_in w5) rfl g1 g2 (hts _ w4) (hts _ w1) w6 ⟨g3, g4⟩, hts _ w2⟩ ⟨PreW_blind, fun U hU hW => ⟨rfl, by rw [hU], by rw [hU]; exact hP, va_K.moved hW.alike hK, hD.weaken (fun _ _ _ _ => trivial), hN.warm hW⟩⟩ rfl hn hl.1 rfl (lv_room hW) hd ⟨hk.1, hk.2⟩) hS (fun q _ h => hF q h) hF (fun r u t H1 locs1 ht hvm hw hB hz1 hk1 hS1 => ?_)
  obtain ⟨r', σ'⟩ := u
  obtain ⟨hw1, hw2⟩ := hw
  obtain ⟨hP1, hD1, hR1⟩ := hB
  rw [ht] at hP1
  rw [hw1]
  exact kk r' σ' hw2 H1 locs1 ls hP1 (hD1.weaken (fun _ q _ h => hF _ h)) hS1 hR1 hl
end CL
end
section
theorem fit_b {r : Int} (h : r = 0 ∨ r = 1) : fits .boolean (iv r) = true := by
  rcases h with rfl | rfl <;> decide +kernel
theorem in_b {r : Int} (h : r = 0 ∨ r = 1) : inR r := by omega
section LN
variable {κ : KT} {cc : ByteArray} {mL : Nat} {rm : Room} {k1 k2 : Nat} {a : Nat → Nat} {n : Nat} {σ : ST} {L : List (Nat × Value)} {pc : Nat} {st : List Value}
theorem gX2_9 (C : CX κ cc RX2 mL rm) (hd : decode cc pc = .ok (.getfield 9, 3)) (kk : J κ k1 k2 a n σ L (pc + 3) (.ref (a 6) :: st)) : J κ k1 k2 a n σ L pc (.ref (a 1) :: st) := r_get (k := 0) C hd 1 (by omega) (fun _ => rfl) rfl inT2 (by decide) tw25 rfl kk
theorem gX2_15 (C : CX κ cc RX2 mL rm) (hd : decode cc pc = .ok (.getfield 15, 3)) (kk : J κ k1 k2 a n σ L (pc + 3) (.ref (a 7) :: st)) : J κ k1 k2 a n σ L pc (.ref (a 1) :: st) := r_get (k := 1) C hd 1 (by omega) (fun _ => rfl) rfl inT2 (by decide) tw27 rfl kk
theorem gX2_20 (C : CX κ cc RX2 mL rm) (hd : decode cc pc = .ok (.getfield 20, 3)) (kk : J κ k1 k2 a n σ L (pc + 3) (.ref (a 8) :: st)) : J κ k1 k2 a n σ L pc (.ref (a 1) :: st) := r_get (k := 2) C hd 1 (by omega) (fun _ => rfl) rfl inT2 (by decide) tw31 rfl kk
theorem gX2_24 (C : CX κ cc RX2 mL rm) (hd : decode cc pc = .ok (.getfield 24, 3)) (kk : inR (σ 1 3) → J κ k1 k2 a n σ L (pc + 3) (iv (σ 1 3) :: st)) : J κ k1 k2 a n σ L pc (.ref (a 1) :: st) := r_inR (fun hR => r_get (k := 3) C hd 1 (by omega) (fun _ => rfl) rfl inT2 (by decide) tw32 rfl (kk (hR _ _)))
theorem pX2_24 {z : Int} (C : CX κ cc RX2 mL rm) (hd : decode cc pc = .ok (.putfield 24, 3)) (hz : inR z) (kk : J κ k1 k2 a n (up2 σ 1 3 z) L (pc + 3) st) : J κ k1 k2 a n σ L pc (iv z :: .ref (a 1) :: st) := r_put (k := 3) (ty := .int) C hd 1 (by omega) (fun _ => rfl) (fun _ => rfl) rfl inT2 tyX2_ok nmX2 (by decide) (Nat.lt_of_lt_of_le (Nat.lt_succ_self _) (Nat.le_of_ble_eq_true rfl)) rfl (by decide +kernel) rfl rfl tw32 hz kk
theorem gX2_28 (C : CX κ cc RX2 mL rm) (hd : decode cc pc = .ok (.getfield 28, 3)) (kk : inR (σ 1 4) → J κ k1 k2 a n σ L (pc + 3) (iv (σ 1 4) :: st)) : J κ k1 k2 a n σ L pc (.ref (a 1) :: st) := r_inR (fun hR => r_get (k := 4) C hd 1 (by omega) (fun _ => rfl) rfl inT2 (by decide) tw34 rfl (kk (hR _ _)))
theorem pX2_28 {z : Int} (C : CX κ cc RX2 mL rm) (hd : decode cc pc = .ok (.putfield 28, 3)) (hz : inR z) (kk : J κ k1 k2 a n (up2 σ 1 4 z) L (pc + 3) st) : J κ k1 k2 a n σ L pc (iv z :: .ref (a 1) :: st) := r_put (k := 4) (ty := .int) C hd 1 (by omega) (fun _ => rfl) (fun _ => rfl) rfl inT2 tyX2_ok nmX2 (by decide) (Nat.lt_of_lt_of_le (Nat.lt_succ_self _) (Nat.le_of_ble_eq_true rfl)) rfl (by decide +kernel) rfl rfl tw34 hz kk
theorem gX1_9 (C : CX κ cc RX1 mL rm) (hd : decode cc pc = .ok (.getfield 9, 3)) (kk : J κ k1 k2 a n σ L (pc + 3) (.ref (a 1) :: st)) : J κ k1 k2 a n σ L pc (.ref (a 2) :: st) := r_get (k := 0) C hd 2 (by omega) (fun _ => rfl) rfl inT1 (by decide) tw55 rfl kk
theorem gX1_15 (C : CX κ cc RX1 mL rm) (hd : decode cc pc = .ok (.getfield 15, 3)) (kk : J κ k1 k2 a n σ L (pc + 3) (.ref (a 9) :: st)) : J κ k1 k2 a n σ L pc (.ref (a 2) :: st) := r_get (k := 1) C hd 2 (by omega) (fun _ => rfl) rfl inT1 (by decide) tw56 rfl kk
theorem gX1_19 (C : CX κ cc RX1 mL rm) (hd : decode cc pc = .ok (.getfield 19, 3)) (kk : J κ k1 k2 a n σ L (pc + 3) (.ref (a 10) :: st)) : J κ k1 k2 a n σ L pc (.ref (a 2) :: st) := r_get (k := 2) C hd 2 (by omega) (fun _ => rfl) rfl inT1 (by decide) tw57 rfl kk
theorem gX1_22 (C : CX κ cc RX1 mL rm) (hd : decode cc pc = .ok (.getfield 22, 3)) (kk : inR (σ 2 3) → J κ k1 k2 a n σ L (pc + 3) (iv (σ 2 3) :: st)) : J κ k1 k2 a n σ L pc (.ref (a 2) :: st) := r_inR (fun hR => r_get (k := 3) C hd 2 (by omega) (fun _ => rfl) rfl inT1 (by decide) tw58 rfl (kk (hR _ _)))
theorem pX1_22 {z : Int} (C : CX κ cc RX1 mL rm) (hd : decode cc pc = .ok (.putfield 22, 3)) (hz : inR z) (kk : J κ k1 k2 a n (up2 σ 2 3 z) L (pc + 3) st) : J κ k1 k2 a n σ L pc (iv z :: .ref (a 2) :: st) := r_put (k := 3) (ty := .int) C hd 2 (by omega) (fun _ => rfl) (fun _ => rfl) rfl inT1 tyX1_ok nmX1 (by decide) (Nat.lt_of_lt_of_le (Nat.lt_succ_self _) (Nat.le_of_ble_eq_true rfl)) rfl (by decide +kernel) rfl rfl tw58 hz kk
theorem gX1_26 (C : CX κ cc RX1 mL rm) (hd : decode cc pc = .ok (.getfield 26, 3)) (kk : inR (σ 2 4) → J κ k1 k2 a n σ L (pc + 3) (iv (σ 2 4) :: st)) : J κ k1 k2 a n σ L pc (.ref (a 2) :: st) := r_inR (fun hR => r_get (k := 4) C hd 2 (by omega) (fun _ => rfl) rfl inT1 (by decide) tw61 rfl (kk (hR _ _)))
theorem pX1_26 {z : Int} (C : CX κ cc RX1 mL rm) (hd : decode cc pc = .ok (.putfield 26, 3)) (hz : inR z) (kk : J κ k1 k2 a n (up2 σ 2 4 z) L (pc + 3) st) : J κ k1 k2 a n σ L pc (iv z :: .ref (a 2) :: st) := r_put (k := 4) (ty := .int) C hd 2 (by omega) (fun _ => rfl) (fun _ => rfl) rfl inT1 tyX1_ok nmX1 (by decide) (Nat.lt_of_lt_of_le (Nat.lt_succ_self _) (Nat.le_of_ble_eq_true rfl)) rfl (by decide +kernel) rfl rfl tw61 hz kk
theorem gX1_29 (C : CX κ cc RX1 mL rm) (hd : decode cc pc = .ok (.getfield 29, 3)) (kk : inR (σ 2 5) → J κ k1 k2 a n σ L (pc + 3) (iv (σ 2 5) :: st)) : J κ k1 k2 a n σ L pc (.ref (a 2) :: st) := r_inR (fun hR => r_get (k := 5) C hd 2 (by omega) (fun _ => rfl) rfl inT1 (by decide) tw62 rfl (kk (hR _ _)))
theorem pX1_29 {z : Int} (C : CX κ cc RX1 mL rm) (hd : decode cc pc = .ok (.putfield 29, 3)) (hz : inR z) (kk : J κ k1 k2 a n (up2 σ 2 5 z) L (pc + 3) st) : J κ k1 k2 a n σ L pc (iv z :: .ref (a 2) :: st) := r_put (k := 5) (ty := .int) C hd 2 (by omega) (fun _ => rfl) (fun _ => rfl) rfl inT1 tyX1_ok nmX1 (by decide) (Nat.lt_of_lt_of_le (Nat.lt_succ_self _) (Nat.le_of_ble_eq_true rfl)) rfl (by decide +kernel) rfl rfl tw62 hz kk
theorem gX0_9 (C : CX κ cc RX0 mL rm) (hd : decode cc pc = .ok (.getfield 9, 3)) (kk : J κ k1 k2 a n σ L (pc + 3) (.ref (a 2) :: st)) : J κ k1 k2 a n σ L pc (.ref (a 3) :: st) := r_get (k := 0) C hd 3 (by omega) (fun _ => rfl) rfl inT0 (by decide) tw82 rfl kk
theorem gX0_15 (C : CX κ cc RX0 mL rm) (hd : decode cc pc = .ok (.getfield 15, 3)) (kk : J κ k1 k2 a n σ L (pc + 3) (.ref (a 11) :: st)) : J κ k1 k2 a n σ L pc (.ref (a 3) :: st) := r_get (k := 1) C hd 3 (by omega) (fun _ => rfl) rfl inT0 (by decide) tw83 rfl kk
theorem gX0_19 (C : CX κ cc RX0 mL rm) (hd : decode cc pc = .ok (.getfield 19, 3)) (kk : J κ k1 k2 a n σ L (pc + 3) (.ref (a 12) :: st)) : J κ k1 k2 a n σ L pc (.ref (a 3) :: st) := r_get (k := 2) C hd 3 (by omega) (fun _ => rfl) rfl inT0 (by decide) tw84 rfl kk
theorem gX0_22 (C : CX κ cc RX0 mL rm) (hd : decode cc pc = .ok (.getfield 22, 3)) (kk : J κ k1 k2 a n σ L (pc + 3) (.ref (a 13) :: st)) : J κ k1 k2 a n σ L pc (.ref (a 3) :: st) := r_get (k := 3) C hd 3 (by omega) (fun _ => rfl) rfl inT0 (by decide) tw85 rfl kk
theorem gX0_25 (C : CX κ cc RX0 mL rm) (hd : decode cc pc = .ok (.getfield 25, 3)) (kk : J κ k1 k2 a n σ L (pc + 3) (.ref (a 14) :: st)) : J κ k1 k2 a n σ L pc (.ref (a 3) :: st) := r_get (k := 4) C hd 3 (by omega) (fun _ => rfl) rfl inT0 (by decide) tw86 rfl kk
theorem gX0_28 (C : CX κ cc RX0 mL rm) (hd : decode cc pc = .ok (.getfield 28, 3)) (kk : J κ k1 k2 a n σ L (pc + 3) (.ref (a 15) :: st)) : J κ k1 k2 a n σ L pc (.ref (a 3) :: st) := r_get (k := 5) C hd 3 (by omega) (fun _ => rfl) rfl inT0 (by decide) tw87 rfl kk
theorem gX0_31 (C : CX κ cc RX0 mL rm) (hd : decode cc pc = .ok (.getfield 31, 3)) (kk : J κ k1 k2 a n σ L (pc + 3) (.ref (a 16) :: st)) : J κ k1 k2 a n σ L pc (.ref (a 3) :: st) := r_get (k := 6) C hd 3 (by omega) (fun _ => rfl) rfl inT0 (by decide) tw88 rfl kk
theorem gX0_34 (C : CX κ cc RX0 mL rm) (hd : decode cc pc = .ok (.getfield 34, 3)) (kk : inR (σ 3 7) → J κ k1 k2 a n σ L (pc + 3) (iv (σ 3 7) :: st)) : J κ k1 k2 a n σ L pc (.ref (a 3) :: st) := r_inR (fun hR => r_get (k := 7) C hd 3 (by omega) (fun _ => rfl) rfl inT0 (by decide) tw89 rfl (kk (hR _ _)))
theorem pX0_34 {z : Int} (C : CX κ cc RX0 mL rm) (hd : decode cc pc = .ok (.putfield 34, 3)) (hz : inR z) (kk : J κ k1 k2 a n (up2 σ 3 7 z) L (pc + 3) st) : J κ k1 k2 a n σ L pc (iv z :: .ref (a 3) :: st) := r_put (k := 7) (ty := .int) C hd 3 (by omega) (fun _ => rfl) (fun _ => rfl) rfl inT0 tyX0_ok nmX0 (by decide) (Nat.lt_of_lt_of_le (Nat.lt_succ_self _) (Nat.le_of_ble_eq_true rfl)) rfl (by decide +kernel) rfl rfl tw89 hz kk
theorem gX0_38 (C : CX κ cc RX0 mL rm) (hd : decode cc pc = .ok (.getfield 38, 3)) (kk : inR (σ 3 8) → J κ k1 k2 a n σ L (pc + 3) (iv (σ 3 8) :: st)) : J κ k1 k2 a n σ L pc (.ref (a 3) :: st) := r_inR (fun hR => r_get (k := 8) C hd 3 (by omega) (fun _ => rfl) rfl inT0 (by decide) tw90 rfl (kk (hR _ _)))
theorem pX0_38 {z : Int} (C : CX κ cc RX0 mL rm) (hd : decode cc pc = .ok (.putfield 38, 3)) (hz : inR z) (kk : J κ k1 k2 a n (up2 σ 3 8 z) L (pc + 3) st) : J κ k1 k2 a n σ L pc (iv z :: .ref (a 3) :: st) := r_put (k := 8) (ty := .int) C hd 3 (by omega) (fun _ => rfl) (fun _ => rfl) rfl inT0 tyX0_ok nmX0 (by decide) (Nat.lt_of_lt_of_le (Nat.lt_succ_self _) (Nat.le_of_ble_eq_true rfl)) rfl (by decide +kernel) rfl rfl tw90 hz kk
theorem gX0_41 (C : CX κ cc RX0 mL rm) (hd : decode cc pc = .ok (.getfield 41, 3)) (kk : inR (σ 3 9) → J κ k1 k2 a n σ L (pc + 3) (iv (σ 3 9) :: st)) : J κ k1 k2 a n σ L pc (.ref (a 3) :: st) := r_inR (fun hR => r_get (k := 9) C hd 3 (by omega) (fun _ => rfl) rfl inT0 (by decide) tw91 rfl (kk (hR _ _)))
theorem pX0_41 {z : Int} (C : CX κ cc RX0 mL rm) (hd : decode cc pc = .ok (.putfield 41, 3)) (hz : inR z) (kk : J κ k1 k2 a n (up2 σ 3 9 z) L (pc + 3) st) : J κ k1 k2 a n σ L pc (iv z :: .ref (a 3) :: st) := r_put (k := 9) (ty := .int) C hd 3 (by omega) (fun _ => rfl) (fun _ => rfl) rfl inT0 tyX0_ok nmX0 (by decide) (Nat.lt_of_lt_of_le (Nat.lt_succ_self _) (Nat.le_of_ble_eq_true rfl)) rfl (by decide +kernel) rfl rfl tw91 hz kk
theorem gX3_9 (C : CX κ cc RX3 mL rm) (hd : decode cc pc = .ok (.getfield 9, 3)) (kk : J κ k1 k2 a n σ L (pc + 3) (.ref (a 17) :: st)) : J κ k1 k2 a n σ L pc (.ref (a 4) :: st) := r_get (k := 0) C hd 4 (by omega) (fun _ => rfl) rfl inT3 (by decide) tw119 rfl kk
theorem gX3_15 (C : CX κ cc RX3 mL rm) (hd : decode cc pc = .ok (.getfield 15, 3)) (kk : inR (σ 4 1) → J κ k1 k2 a n σ L (pc + 3) (iv (σ 4 1) :: st)) : J κ k1 k2 a n σ L pc (.ref (a 4) :: st) := r_inR (fun hR => r_get (k := 1) C hd 4 (by omega) (fun _ => rfl) rfl inT3 (by decide) tw120 rfl (kk (hR _ _)))
theorem pX3_15 {z : Int} (C : CX κ cc RX3 mL rm) (hd : decode cc pc = .ok (.putfield 15, 3)) (hz : inR z) (kk : J κ k1 k2 a n (up2 σ 4 1 z) L (pc + 3) st) : J κ k1 k2 a n σ L pc (iv z :: .ref (a 4) :: st) := r_put (k := 1) (ty := .int) C hd 4 (by omega) (fun _ => rfl) (fun _ => rfl) rfl inT3 tyX3_ok nmX3 (by decide) (Nat.lt_of_lt_of_le (Nat.lt_succ_self _) (Nat.le_of_ble_eq_true rfl)) rfl (by decide +kernel) rfl rfl tw120 hz kk
theorem gX5_12 (C : CX κ cc RX5 mL rm) (hd : decode cc pc = .ok (.getfield 12, 3)) (kk : J κ k1 k2 a n σ L (pc + 3) (.ref (a 1) :: st)) : J κ k1 k2 a n σ L pc (.ref (a 0) :: st) := r_get (k := 0) C hd 0 (by omega) (fun _ => rfl) rfl inT5 (by decide) tw127 rfl kk
theorem gX5_21 (C : CX κ cc RX5 mL rm) (hd : decode cc pc = .ok (.getfield 21, 3)) (kk : J κ k1 k2 a n σ L (pc + 3) (.ref (a 2) :: st)) : J κ k1 k2 a n σ L pc (.ref (a 0) :: st) := r_get (k := 1) C hd 0 (by omega) (fun _ => rfl) rfl inT5 (by decide) tw128 rfl kk
theorem gX5_30 (C : CX κ cc RX5 mL rm) (hd : decode cc pc = .ok (.getfield 30, 3)) (kk : J κ k1 k2 a n σ L (pc + 3) (.ref (a 3) :: st)) : J κ k1 k2 a n σ L pc (.ref (a 0) :: st) := r_get (k := 2) C hd 0 (by omega) (fun _ => rfl) rfl inT5 (by decide) tw129 rfl kk
theorem gX5_37 (C : CX κ cc RX5 mL rm) (hd : decode cc pc = .ok (.getfield 37, 3)) (kk : J κ k1 k2 a n σ L (pc + 3) (.ref (a 4) :: st)) : J κ k1 k2 a n σ L pc (.ref (a 0) :: st) := r_get (k := 3) C hd 0 (by omega) (fun _ => rfl) rfl inT5 (by decide) tw130 rfl kk
theorem gX5_41 (C : CX κ cc RX5 mL rm) (hd : decode cc pc = .ok (.getfield 41, 3)) (kk : J κ k1 k2 a n σ L (pc + 3) (.ref (a 5) :: st)) : J κ k1 k2 a n σ L pc (.ref (a 0) :: st) := r_get (k := 4) C hd 0 (by omega) (fun _ => rfl) rfl inT5 (by decide) tw131 rfl kk
theorem gX5_45 (C : CX κ cc RX5 mL rm) (hd : decode cc pc = .ok (.getfield 45, 3)) (kk : inR (σ 0 5) → J κ k1 k2 a n σ L (pc + 3) (iv (σ 0 5) :: st)) : J κ k1 k2 a n σ L pc (.ref (a 0) :: st) := r_inR (fun hR => r_get (k := 5) C hd 0 (by omega) (fun _ => rfl) rfl inT5 (by decide) tw132 rfl (kk (hR _ _)))
theorem pX5_45 {z : Int} (C : CX κ cc RX5 mL rm) (hd : decode cc pc = .ok (.putfield 45, 3)) (hz : inR z) (kk : J κ k1 k2 a n (up2 σ 0 5 z) L (pc + 3) st) : J κ k1 k2 a n σ L pc (iv z :: .ref (a 0) :: st) := r_put (k := 5) (ty := .int) C hd 0 (by omega) (fun _ => rfl) (fun _ => rfl) rfl inT5 tyX5_ok nmX5 (by decide) (Nat.lt_of_lt_of_le (Nat.lt_succ_self _) (Nat.le_of_ble_eq_true rfl)) rfl (by decide +kernel) rfl rfl tw132 hz kk
theorem gX5_49 (C : CX κ cc RX5 mL rm) (hd : decode cc pc = .ok (.getfield 49, 3)) (kk : inR (σ 0 6) → J κ k1 k2 a n σ L (pc + 3) (iv (σ 0 6) :: st)) : J κ k1 k2 a n σ L pc (.ref (a 0) :: st) := r_inR (fun hR => r_get (k := 6) C hd 0 (by omega) (fun _ => rfl) rfl inT5 (by decide) tw133 rfl (kk (hR _ _)))
theorem pX5_49 {z : Int} (C : CX κ cc RX5 mL rm) (hd : decode cc pc = .ok (.putfield 49, 3)) (hz : inR z) (kk : J κ k1 k2 a n (up2 σ 0 6 z) L (pc + 3) st) : J κ k1 k2 a n σ L pc (iv z :: .ref (a 0) :: st) := r_put (k := 6) (ty := .int) C hd 0 (by omega) (fun _ => rfl) (fun _ => rfl) rfl inT5 tyX5_ok nmX5 (by decide) (Nat.lt_of_lt_of_le (Nat.lt_succ_self _) (Nat.le_of_ble_eq_true rfl)) rfl (by decide +kernel) rfl rfl tw133 hz kk
theorem gX5_52 (C : CX κ cc RX5 mL rm) (hd : decode cc pc = .ok (.getfield 52, 3)) (kk : inR (σ 0 7) → J κ k1 k2 a n σ L (pc + 3) (iv (σ 0 7) :: st)) : J κ k1 k2 a n σ L pc (.ref (a 0) :: st) := r_inR (fun hR => r_get (k := 7) C hd 0 (by omega) (fun _ => rfl) rfl inT5 (by decide) tw134 rfl (kk (hR _ _)))
theorem pX5_52 {z : Int} (C : CX κ cc RX5 mL rm) (hd : decode cc pc = .ok (.putfield 52, 3)) (hz : inR z) (kk : J κ k1 k2 a n (up2 σ 0 7 z) L (pc + 3) st) : J κ k1 k2 a n σ L pc (iv z :: .ref (a 0) :: st) := r_put (k := 7) (ty := .int) C hd 0 (by omega) (fun _ => rfl) (fun _ => rfl) rfl inT5 tyX5_ok nmX5 (by decide) (Nat.lt_of_lt_of_le (Nat.lt_succ_self _) (Nat.le_of_ble_eq_true rfl)) rfl (by decide +kernel) rfl rfl tw134 hz kk
theorem gX5_55 (C : CX κ cc RX5 mL rm) (hd : decode cc pc = .ok (.getfield 55, 3)) (kk : inR (σ 0 8) → J κ k1 k2 a n σ L (pc + 3) (iv (σ 0 8) :: st)) : J κ k1 k2 a n σ L pc (.ref (a 0) :: st) := r_inR (fun hR => r_get (k := 8) C hd 0 (by omega) (fun _ => rfl) rfl inT5 (by decide) tw135 rfl (kk (hR _ _)))
theorem pX5_55 {z : Int} (C : CX κ cc RX5 mL rm) (hd : decode cc pc = .ok (.putfield 55, 3)) (hz : inR z) (kk : J κ k1 k2 a n (up2 σ 0 8 z) L (pc + 3) st) : J κ k1 k2 a n σ L pc (iv z :: .ref (a 0) :: st) := r_put (k := 8) (ty := .int) C hd 0 (by omega) (fun _ => rfl) (fun _ => rfl) rfl inT5 tyX5_ok nmX5 (by decide) (Nat.lt_of_lt_of_le (Nat.lt_succ_self _) (Nat.le_of_ble_eq_true rfl)) rfl (by decide +kernel) rfl rfl tw135 hz kk
theorem gX5_58 (C : CX κ cc RX5 mL rm) (hd : decode cc pc = .ok (.getfield 58, 3)) (kk : inR (σ 0 9) → J κ k1 k2 a n σ L (pc + 3) (iv (σ 0 9) :: st)) : J κ k1 k2 a n σ L pc (.ref (a 0) :: st) := r_inR (fun hR => r_get (k := 9) C hd 0 (by omega) (fun _ => rfl) rfl inT5 (by decide) tw136 rfl (kk (hR _ _)))
theorem pX5_58 {z : Int} (C : CX κ cc RX5 mL rm) (hd : decode cc pc = .ok (.putfield 58, 3)) (hz : inR z) (kk : J κ k1 k2 a n (up2 σ 0 9 z) L (pc + 3) st) : J κ k1 k2 a n σ L pc (iv z :: .ref (a 0) :: st) := r_put (k := 9) (ty := .int) C hd 0 (by omega) (fun _ => rfl) (fun _ => rfl) rfl inT5 tyX5_ok nmX5 (by decide) (Nat.lt_of_lt_of_le (Nat.lt_succ_self _) (Nat.le_of_ble_eq_true rfl)) rfl (by decide +kernel) rfl rfl tw136 hz kk
theorem gX4_9 (i : Nat) (hi : i < n) (C : CX κ cc RX4 mL rm) (hd : decode cc pc = .ok (.getfield 9, 3)) (kk : inR (σ (38 + 5 * i) 0) → J κ k1 k2 a n σ L (pc + 3) (iv (σ (38 + 5 * i) 0) :: st)) : J κ k1 k2 a n σ L pc (.ref (a (38 + 5 * i)) :: st) := r_inR (fun hR => r_get (k := 0) C hd (38 + 5 * i) (by omega) (fun _ => cF_v0 i) rfl inT4 (by decide) tw190 rfl (kk (hR _ _)))
theorem gX4_15 (i : Nat) (hi : i < n) (C : CX κ cc RX4 mL rm) (hd : decode cc pc = .ok (.getfield 15, 3)) (kk : inR (σ (38 + 5 * i) 1) → J κ k1 k2 a n σ L (pc + 3) (iv (σ (38 + 5 * i) 1) :: st)) : J κ k1 k2 a n σ L pc (.ref (a (38 + 5 * i)) :: st) := r_inR (fun hR => r_get (k := 1) C hd (38 + 5 * i) (by omega) (fun _ => cF_v0 i) rfl inT4 (by decide) tw191 rfl (kk (hR _ _)))
theorem gX4_18 (i : Nat) (hi : i < n) (C : CX κ cc RX4 mL rm) (hd : decode cc pc = .ok (.getfield 18, 3)) (kk : J κ k1 k2 a n σ L (pc + 3) (.ref (a (39 + 5 * i)) :: st)) : J κ k1 k2 a n σ L pc (.ref (a (38 + 5 * i)) :: st) := r_get (k := 2) C hd (38 + 5 * i) (by omega) (fun _ => cF_v0 i) rfl inT4 (by decide) tw193 rfl kk
theorem gX4_22 (i : Nat) (hi : i < n) (C : CX κ cc RX4 mL rm) (hd : decode cc pc = .ok (.getfield 22, 3)) (kk : J κ k1 k2 a n σ L (pc + 3) (.ref (a (40 + 5 * i)) :: st)) : J κ k1 k2 a n σ L pc (.ref (a (38 + 5 * i)) :: st) := r_get (k := 3) C hd (38 + 5 * i) (by omega) (fun _ => cF_v0 i) rfl inT4 (by decide) tw196 rfl kk
theorem gX4_25 (i : Nat) (hi : i < n) (C : CX κ cc RX4 mL rm) (hd : decode cc pc = .ok (.getfield 25, 3)) (kk : inR (σ (38 + 5 * i) 4) → J κ k1 k2 a n σ L (pc + 3) (iv (σ (38 + 5 * i) 4) :: st)) : J κ k1 k2 a n σ L pc (.ref (a (38 + 5 * i)) :: st) := r_inR (fun hR => r_get (k := 4) C hd (38 + 5 * i) (by omega) (fun _ => cF_v0 i) rfl inT4 (by decide) tw199 rfl (kk (hR _ _)))
theorem pX4_25 (i : Nat) (hi : i < n) {z : Int} (C : CX κ cc RX4 mL rm) (hd : decode cc pc = .ok (.putfield 25, 3)) (hz : z = 0 ∨ z = 1) (kk : J κ k1 k2 a n (up2 σ (38 + 5 * i) 4 z) L (pc + 3) st) : J κ k1 k2 a n σ L pc (iv z :: .ref (a (38 + 5 * i)) :: st) := r_put (k := 4) (ty := .boolean) C hd (38 + 5 * i) (by omega) (fun _ => cF_v0 i) (fun _ => (cF_v0 i).trans rfl) rfl inT4 tyX4_ok nmX4 (by decide) (Nat.lt_of_lt_of_le (Nat.lt_succ_self _) (Nat.le_of_ble_eq_true rfl)) rfl (by decide +kernel) (nar_b hz) (fit_b hz) tw199 (in_b hz) kk
theorem gX4_29 (i : Nat) (hi : i < n) (C : CX κ cc RX4 mL rm) (hd : decode cc pc = .ok (.getfield 29, 3)) (kk : J κ k1 k2 a n σ L (pc + 3) (.ref (a (41 + 5 * i)) :: st)) : J κ k1 k2 a n σ L pc (.ref (a (38 + 5 * i)) :: st) := r_get (k := 5) C hd (38 + 5 * i) (by omega) (fun _ => cF_v0 i) rfl inT4 (by decide) tw202 rfl kk
theorem gX4_32 (i : Nat) (hi : i < n) (C : CX κ cc RX4 mL rm) (hd : decode cc pc = .ok (.getfield 32, 3)) (kk : J κ k1 k2 a n σ L (pc + 3) (.ref (a (42 + 5 * i)) :: st)) : J κ k1 k2 a n σ L pc (.ref (a (38 + 5 * i)) :: st) := r_get (k := 6) C hd (38 + 5 * i) (by omega) (fun _ => cF_v0 i) rfl inT4 (by decide) tw203 rfl kk
theorem gX4_35 (i : Nat) (hi : i < n) (C : CX κ cc RX4 mL rm) (hd : decode cc pc = .ok (.getfield 35, 3)) (kk : inR (σ (38 + 5 * i) 7) → J κ k1 k2 a n σ L (pc + 3) (iv (σ (38 + 5 * i) 7) :: st)) : J κ k1 k2 a n σ L pc (.ref (a (38 + 5 * i)) :: st) := r_inR (fun hR => r_get (k := 7) C hd (38 + 5 * i) (by omega) (fun _ => cF_v0 i) rfl inT4 (by decide) tw204 rfl (kk (hR _ _)))
theorem pX4_35 (i : Nat) (hi : i < n) {z : Int} (C : CX κ cc RX4 mL rm) (hd : decode cc pc = .ok (.putfield 35, 3)) (hz : inR z) (kk : J κ k1 k2 a n (up2 σ (38 + 5 * i) 7 z) L (pc + 3) st) : J κ k1 k2 a n σ L pc (iv z :: .ref (a (38 + 5 * i)) :: st) := r_put (k := 7) (ty := .int) C hd (38 + 5 * i) (by omega) (fun _ => cF_v0 i) (fun _ => (cF_v0 i).trans rfl) rfl inT4 tyX4_ok nmX4 (by decide) (Nat.lt_of_lt_of_le (Nat.lt_succ_self _) (Nat.le_of_ble_eq_true rfl)) rfl (by decide +kernel) rfl rfl tw204 hz kk
theorem gX6_82 (C : CX κ cc RX6 mL rm) (hd : decode cc pc = .ok (.getfield 82, 3)) (kk : inR (σ 18 0) → J κ k1 k2 a n σ L (pc + 3) (iv (σ 18 0) :: st)) : J κ k1 k2 a n σ L pc (.ref (a 18) :: st) := r_inR (fun hR => r_get (k := 0) C hd 18 (by omega) (fun _ => rfl) rfl inT6 (by decide) tw518 rfl (kk (hR _ _)))
theorem pX6_82 {z : Int} (C : CX κ cc RX6 mL rm) (hd : decode cc pc = .ok (.putfield 82, 3)) (hz : inR z) (kk : J κ k1 k2 a n (up2 σ 18 0 z) L (pc + 3) st) : J κ k1 k2 a n σ L pc (iv z :: .ref (a 18) :: st) := r_put (k := 0) (ty := .int) C hd 18 (by omega) (fun _ => rfl) (fun _ => rfl) rfl inT6 tyX6_ok nmX6 (by decide) (Nat.lt_of_lt_of_le (Nat.lt_succ_self _) (Nat.le_of_ble_eq_true rfl)) rfl (by decide +kernel) rfl rfl tw518 hz kk
theorem gX6_89 (C : CX κ cc RX6 mL rm) (hd : decode cc pc = .ok (.getfield 89, 3)) (kk : inR (σ 18 1) → J κ k1 k2 a n σ L (pc + 3) (iv (σ 18 1) :: st)) : J κ k1 k2 a n σ L pc (.ref (a 18) :: st) := r_inR (fun hR => r_get (k := 1) C hd 18 (by omega) (fun _ => rfl) rfl inT6 (by decide) tw519 rfl (kk (hR _ _)))
theorem pX6_89 {z : Int} (C : CX κ cc RX6 mL rm) (hd : decode cc pc = .ok (.putfield 89, 3)) (hz : inR z) (kk : J κ k1 k2 a n (up2 σ 18 1 z) L (pc + 3) st) : J κ k1 k2 a n σ L pc (iv z :: .ref (a 18) :: st) := r_put (k := 1) (ty := .int) C hd 18 (by omega) (fun _ => rfl) (fun _ => rfl) rfl inT6 tyX6_ok nmX6 (by decide) (Nat.lt_of_lt_of_le (Nat.lt_succ_self _) (Nat.le_of_ble_eq_true rfl)) rfl (by decide +kernel) rfl rfl tw519 hz kk
theorem gX6_150 (C : CX κ cc RX6 mL rm) (hd : decode cc pc = .ok (.getfield 150, 3)) (kk : inR (σ 18 2) → J κ k1 k2 a n σ L (pc + 3) (iv (σ 18 2) :: st)) : J κ k1 k2 a n σ L pc (.ref (a 18) :: st) := r_inR (fun hR => r_get (k := 2) C hd 18 (by omega) (fun _ => rfl) rfl inT6 (by decide) tw520 rfl (kk (hR _ _)))
theorem pX6_150 {z : Int} (C : CX κ cc RX6 mL rm) (hd : decode cc pc = .ok (.putfield 150, 3)) (hz : inR z) (kk : J κ k1 k2 a n (up2 σ 18 2 z) L (pc + 3) st) : J κ k1 k2 a n σ L pc (iv z :: .ref (a 18) :: st) := r_put (k := 2) (ty := .int) C hd 18 (by omega) (fun _ => rfl) (fun _ => rfl) rfl inT6 tyX6_ok nmX6 (by decide) (Nat.lt_of_lt_of_le (Nat.lt_succ_self _) (Nat.le_of_ble_eq_true rfl)) rfl (by decide +kernel) rfl rfl tw520 hz kk
theorem gX6_126 (C : CX κ cc RX6 mL rm) (hd : decode cc pc = .ok (.getfield 126, 3)) (kk : inR (σ 18 3) → J κ k1 k2 a n σ L (pc + 3) (iv (σ 18 3) :: st)) : J κ k1 k2 a n σ L pc (.ref (a 18) :: st) := r_inR (fun hR => r_get (k := 3) C hd 18 (by omega) (fun _ => rfl) rfl inT6 (by decide) tw521 rfl (kk (hR _ _)))
theorem pX6_126 {z : Int} (C : CX κ cc RX6 mL rm) (hd : decode cc pc = .ok (.putfield 126, 3)) (hz : inR z) (kk : J κ k1 k2 a n (up2 σ 18 3 z) L (pc + 3) st) : J κ k1 k2 a n σ L pc (iv z :: .ref (a 18) :: st) := r_put (k := 3) (ty := .int) C hd 18 (by omega) (fun _ => rfl) (fun _ => rfl) rfl inT6 tyX6_ok nmX6 (by decide) (Nat.lt_of_lt_of_le (Nat.lt_succ_self _) (Nat.le_of_ble_eq_true rfl)) rfl (by decide +kernel) rfl rfl tw521 hz kk
theorem gX6_7 (C : CX κ cc RX6 mL rm) (hd : decode cc pc = .ok (.getfield 7, 3)) (kk : inR (σ 18 4) → J κ k1 k2 a n σ L (pc + 3) (iv (σ 18 4) :: st)) : J κ k1 k2 a n σ L pc (.ref (a 18) :: st) := r_inR (fun hR => r_get (k := 4) C hd 18 (by omega) (fun _ => rfl) rfl inT6 (by decide) tw522 rfl (kk (hR _ _)))
theorem pX6_7 {z : Int} (C : CX κ cc RX6 mL rm) (hd : decode cc pc = .ok (.putfield 7, 3)) (hz : inR z) (kk : J κ k1 k2 a n (up2 σ 18 4 z) L (pc + 3) st) : J κ k1 k2 a n σ L pc (iv z :: .ref (a 18) :: st) := r_put (k := 4) (ty := .int) C hd 18 (by omega) (fun _ => rfl) (fun _ => rfl) rfl inT6 tyX6_ok nmX6 (by decide) (Nat.lt_of_lt_of_le (Nat.lt_succ_self _) (Nat.le_of_ble_eq_true rfl)) rfl (by decide +kernel) rfl rfl tw522 hz kk
theorem gX6_13 (C : CX κ cc RX6 mL rm) (hd : decode cc pc = .ok (.getfield 13, 3)) (kk : inR (σ 18 5) → J κ k1 k2 a n σ L (pc + 3) (iv (σ 18 5) :: st)) : J κ k1 k2 a n σ L pc (.ref (a 18) :: st) := r_inR (fun hR => r_get (k := 5) C hd 18 (by omega) (fun _ => rfl) rfl inT6 (by decide) tw523 rfl (kk (hR _ _)))
theorem pX6_13 {z : Int} (C : CX κ cc RX6 mL rm) (hd : decode cc pc = .ok (.putfield 13, 3)) (hz : inR z) (kk : J κ k1 k2 a n (up2 σ 18 5 z) L (pc + 3) st) : J κ k1 k2 a n σ L pc (iv z :: .ref (a 18) :: st) := r_put (k := 5) (ty := .int) C hd 18 (by omega) (fun _ => rfl) (fun _ => rfl) rfl inT6 tyX6_ok nmX6 (by decide) (Nat.lt_of_lt_of_le (Nat.lt_succ_self _) (Nat.le_of_ble_eq_true rfl)) rfl (by decide +kernel) rfl rfl tw523 hz kk
theorem gX6_16 (C : CX κ cc RX6 mL rm) (hd : decode cc pc = .ok (.getfield 16, 3)) (kk : inR (σ 18 6) → J κ k1 k2 a n σ L (pc + 3) (iv (σ 18 6) :: st)) : J κ k1 k2 a n σ L pc (.ref (a 18) :: st) := r_inR (fun hR => r_get (k := 6) C hd 18 (by omega) (fun _ => rfl) rfl inT6 (by decide) tw524 rfl (kk (hR _ _)))
theorem pX6_16 {z : Int} (C : CX κ cc RX6 mL rm) (hd : decode cc pc = .ok (.putfield 16, 3)) (hz : inR z) (kk : J κ k1 k2 a n (up2 σ 18 6 z) L (pc + 3) st) : J κ k1 k2 a n σ L pc (iv z :: .ref (a 18) :: st) := r_put (k := 6) (ty := .int) C hd 18 (by omega) (fun _ => rfl) (fun _ => rfl) rfl inT6 tyX6_ok nmX6 (by decide) (Nat.lt_of_lt_of_le (Nat.lt_succ_self _) (Nat.le_of_ble_eq_true rfl)) rfl (by decide +kernel) rfl rfl tw524 hz kk
theorem gX6_19 (C : CX κ cc RX6 mL rm) (hd : decode cc pc = .ok (.getfield 19, 3)) (kk : inR (σ 18 7) → J κ k1 k2 a n σ L (pc + 3) (iv (σ 18 7) :: st)) : J κ k1 k2 a n σ L pc (.ref (a 18) :: st) := r_inR (fun hR => r_get (k := 7) C hd 18 (by omega) (fun _ => rfl) rfl inT6 (by decide) tw525 rfl (kk (hR _ _)))
theorem pX6_19 {z : Int} (C : CX κ cc RX6 mL rm) (hd : decode cc pc = .ok (.putfield 19, 3)) (hz : inR z) (kk : J κ k1 k2 a n (up2 σ 18 7 z) L (pc + 3) st) : J κ k1 k2 a n σ L pc (iv z :: .ref (a 18) :: st) := r_put (k := 7) (ty := .int) C hd 18 (by omega) (fun _ => rfl) (fun _ => rfl) rfl inT6 tyX6_ok nmX6 (by decide) (Nat.lt_of_lt_of_le (Nat.lt_succ_self _) (Nat.le_of_ble_eq_true rfl)) rfl (by decide +kernel) rfl rfl tw525 hz kk
theorem gX6_22 (C : CX κ cc RX6 mL rm) (hd : decode cc pc = .ok (.getfield 22, 3)) (kk : J κ k1 k2 a n σ L (pc + 3) (.ref (a 19) :: st)) : J κ k1 k2 a n σ L pc (.ref (a 18) :: st) := r_get (k := 8) C hd 18 (by omega) (fun _ => rfl) rfl inT6 (by decide) tw526 rfl kk
theorem gX6_26 (C : CX κ cc RX6 mL rm) (hd : decode cc pc = .ok (.getfield 26, 3)) (kk : J κ k1 k2 a n σ L (pc + 3) (.ref (a 20) :: st)) : J κ k1 k2 a n σ L pc (.ref (a 18) :: st) := r_get (k := 9) C hd 18 (by omega) (fun _ => rfl) rfl inT6 (by decide) tw527 rfl kk
theorem gX6_29 (C : CX κ cc RX6 mL rm) (hd : decode cc pc = .ok (.getfield 29, 3)) (kk : J κ k1 k2 a n σ L (pc + 3) (.ref (a 21) :: st)) : J κ k1 k2 a n σ L pc (.ref (a 18) :: st) := r_get (k := 10) C hd 18 (by omega) (fun _ => rfl) rfl inT6 (by decide) tw528 rfl kk
theorem gX6_32 (C : CX κ cc RX6 mL rm) (hd : decode cc pc = .ok (.getfield 32, 3)) (kk : J κ k1 k2 a n σ L (pc + 3) (.ref (a 22) :: st)) : J κ k1 k2 a n σ L pc (.ref (a 18) :: st) := r_get (k := 11) C hd 18 (by omega) (fun _ => rfl) rfl inT6 (by decide) tw529 rfl kk
theorem gX6_35 (C : CX κ cc RX6 mL rm) (hd : decode cc pc = .ok (.getfield 35, 3)) (kk : J κ k1 k2 a n σ L (pc + 3) (.ref (a 23) :: st)) : J κ k1 k2 a n σ L pc (.ref (a 18) :: st) := r_get (k := 12) C hd 18 (by omega) (fun _ => rfl) rfl inT6 (by decide) tw530 rfl kk
theorem gX6_38 (C : CX κ cc RX6 mL rm) (hd : decode cc pc = .ok (.getfield 38, 3)) (kk : J κ k1 k2 a n σ L (pc + 3) (.ref (a 24) :: st)) : J κ k1 k2 a n σ L pc (.ref (a 18) :: st) := r_get (k := 13) C hd 18 (by omega) (fun _ => rfl) rfl inT6 (by decide) tw531 rfl kk
theorem gX6_41 (C : CX κ cc RX6 mL rm) (hd : decode cc pc = .ok (.getfield 41, 3)) (kk : J κ k1 k2 a n σ L (pc + 3) (.ref (a 25) :: st)) : J κ k1 k2 a n σ L pc (.ref (a 18) :: st) := r_get (k := 14) C hd 18 (by omega) (fun _ => rfl) rfl inT6 (by decide) tw532 rfl kk
theorem gX6_44 (C : CX κ cc RX6 mL rm) (hd : decode cc pc = .ok (.getfield 44, 3)) (kk : J κ k1 k2 a n σ L (pc + 3) (.ref (a 26) :: st)) : J κ k1 k2 a n σ L pc (.ref (a 18) :: st) := r_get (k := 15) C hd 18 (by omega) (fun _ => rfl) rfl inT6 (by decide) tw533 rfl kk
theorem gX6_47 (C : CX κ cc RX6 mL rm) (hd : decode cc pc = .ok (.getfield 47, 3)) (kk : J κ k1 k2 a n σ L (pc + 3) (.ref (a 27) :: st)) : J κ k1 k2 a n σ L pc (.ref (a 18) :: st) := r_get (k := 16) C hd 18 (by omega) (fun _ => rfl) rfl inT6 (by decide) tw534 rfl kk
theorem gX6_50 (C : CX κ cc RX6 mL rm) (hd : decode cc pc = .ok (.getfield 50, 3)) (kk : J κ k1 k2 a n σ L (pc + 3) (.ref (a 28) :: st)) : J κ k1 k2 a n σ L pc (.ref (a 18) :: st) := r_get (k := 17) C hd 18 (by omega) (fun _ => rfl) rfl inT6 (by decide) tw535 rfl kk
theorem gX6_106 (C : CX κ cc RX6 mL rm) (hd : decode cc pc = .ok (.getfield 106, 3)) (kk : inR (σ 18 18) → J κ k1 k2 a n σ L (pc + 3) (iv (σ 18 18) :: st)) : J κ k1 k2 a n σ L pc (.ref (a 18) :: st) := r_inR (fun hR => r_get (k := 18) C hd 18 (by omega) (fun _ => rfl) rfl inT6 (by decide) tw536 rfl (kk (hR _ _)))
theorem pX6_106 {z : Int} (C : CX κ cc RX6 mL rm) (hd : decode cc pc = .ok (.putfield 106, 3)) (hz : inR z) (kk : J κ k1 k2 a n (up2 σ 18 18 z) L (pc + 3) st) : J κ k1 k2 a n σ L pc (iv z :: .ref (a 18) :: st) := r_put (k := 18) (ty := .int) C hd 18 (by omega) (fun _ => rfl) (fun _ => rfl) rfl inT6 tyX6_ok nmX6 (by decide) (Nat.lt_of_lt_of_le (Nat.lt_succ_self _) (Nat.le_of_ble_eq_true rfl)) rfl (by decide +kernel) rfl rfl tw536 hz kk
theorem gX6_53 (C : CX κ cc RX6 mL rm) (hd : decode cc pc = .ok (.getfield 53, 3)) (kk : J κ k1 k2 a n σ L (pc + 3) (.ref (a 29) :: st)) : J κ k1 k2 a n σ L pc (.ref (a 18) :: st) := r_get (k := 19) C hd 18 (by omega) (fun _ => rfl) rfl inT6 (by decide) tw537 rfl kk
theorem gX6_56 (C : CX κ cc RX6 mL rm) (hd : decode cc pc = .ok (.getfield 56, 3)) (kk : J κ k1 k2 a n σ L (pc + 3) (.ref (a 30) :: st)) : J κ k1 k2 a n σ L pc (.ref (a 18) :: st) := r_get (k := 20) C hd 18 (by omega) (fun _ => rfl) rfl inT6 (by decide) tw538 rfl kk
theorem gX6_59 (C : CX κ cc RX6 mL rm) (hd : decode cc pc = .ok (.getfield 59, 3)) (kk : J κ k1 k2 a n σ L (pc + 3) (.ref (a 31) :: st)) : J κ k1 k2 a n σ L pc (.ref (a 18) :: st) := r_get (k := 21) C hd 18 (by omega) (fun _ => rfl) rfl inT6 (by decide) tw539 rfl kk
theorem gX6_62 (C : CX κ cc RX6 mL rm) (hd : decode cc pc = .ok (.getfield 62, 3)) (kk : J κ k1 k2 a n σ L (pc + 3) (.ref (a 32) :: st)) : J κ k1 k2 a n σ L pc (.ref (a 18) :: st) := r_get (k := 22) C hd 18 (by omega) (fun _ => rfl) rfl inT6 (by decide) tw540 rfl kk
theorem gX6_65 (C : CX κ cc RX6 mL rm) (hd : decode cc pc = .ok (.getfield 65, 3)) (kk : J κ k1 k2 a n σ L (pc + 3) (.ref (a 33) :: st)) : J κ k1 k2 a n σ L pc (.ref (a 18) :: st) := r_get (k := 23) C hd 18 (by omega) (fun _ => rfl) rfl inT6 (by decide) tw541 rfl kk
theorem gX6_68 (C : CX κ cc RX6 mL rm) (hd : decode cc pc = .ok (.getfield 68, 3)) (kk : J κ k1 k2 a n σ L (pc + 3) (.ref (a 34) :: st)) : J κ k1 k2 a n σ L pc (.ref (a 18) :: st) := r_get (k := 24) C hd 18 (by omega) (fun _ => rfl) rfl inT6 (by decide) tw542 rfl kk
theorem gX6_71 (C : CX κ cc RX6 mL rm) (hd : decode cc pc = .ok (.getfield 71, 3)) (kk : J κ k1 k2 a n σ L (pc + 3) (.ref (a 35) :: st)) : J κ k1 k2 a n σ L pc (.ref (a 18) :: st) := r_get (k := 25) C hd 18 (by omega) (fun _ => rfl) rfl inT6 (by decide) tw543 rfl kk
theorem gX6_74 (C : CX κ cc RX6 mL rm) (hd : decode cc pc = .ok (.getfield 74, 3)) (kk : J κ k1 k2 a n σ L (pc + 3) (.ref (a 36) :: st)) : J κ k1 k2 a n σ L pc (.ref (a 18) :: st) := r_get (k := 26) C hd 18 (by omega) (fun _ => rfl) rfl inT6 (by decide) tw544 rfl kk
theorem gX6_77 (C : CX κ cc RX6 mL rm) (hd : decode cc pc = .ok (.getfield 77, 3)) (kk : J κ k1 k2 a n σ L (pc + 3) (.ref (a 37) :: st)) : J κ k1 k2 a n σ L pc (.ref (a 18) :: st) := r_get (k := 27) C hd 18 (by omega) (fun _ => rfl) rfl inT6 (by decide) tw545 rfl kk
theorem gX1_66 (C : CX κ cc RX1 mL rm) (hd : decode cc pc = .ok (.getfield 66, 3)) (kk : J κ k1 k2 a n σ L (pc + 3) (.ref (a 6) :: st)) : J κ k1 k2 a n σ L pc (.ref (a 1) :: st) := r_getN (k := 0) C hd 1 (by omega) (fun _ => rfl) rfl inT2 (by decide) (List.mem_of_getElem? (i := 0) rfl) rfl kk
theorem gX4_44 (C : CX κ cc RX4 mL rm) (hd : decode cc pc = .ok (.getfield 44, 3)) (kk : J κ k1 k2 a n σ L (pc + 3) (.ref (a 7) :: st)) : J κ k1 k2 a n σ L pc (.ref (a 1) :: st) := r_getN (k := 1) C hd 1 (by omega) (fun _ => rfl) rfl inT2 (by decide) (List.mem_of_getElem? (i := 1) rfl) rfl kk
theorem gX1_48 (C : CX κ cc RX1 mL rm) (hd : decode cc pc = .ok (.getfield 48, 3)) (kk : J κ k1 k2 a n σ L (pc + 3) (.ref (a 7) :: st)) : J κ k1 k2 a n σ L pc (.ref (a 1) :: st) := r_getN (k := 1) C hd 1 (by omega) (fun _ => rfl) rfl inT2 (by decide) (List.mem_of_getElem? (i := 2) rfl) rfl kk
theorem gX5_100 (C : CX κ cc RX5 mL rm) (hd : decode cc pc = .ok (.getfield 100, 3)) (kk : J κ k1 k2 a n σ L (pc + 3) (.ref (a 7) :: st)) : J κ k1 k2 a n σ L pc (.ref (a 1) :: st) := r_getN (k := 1) C hd 1 (by omega) (fun _ => rfl) rfl inT2 (by decide) (List.mem_of_getElem? (i := 3) rfl) rfl kk
theorem gX5_171 (C : CX κ cc RX5 mL rm) (hd : decode cc pc = .ok (.getfield 171, 3)) (kk : inR (σ 1 3) → J κ k1 k2 a n σ L (pc + 3) (iv (σ 1 3) :: st)) : J κ k1 k2 a n σ L pc (.ref (a 1) :: st) := r_inR (fun hR => r_getN (k := 3) C hd 1 (by omega) (fun _ => rfl) rfl inT2 (by decide) (List.mem_of_getElem? (i := 4) rfl) rfl (kk (hR _ _)))
theorem pX5_171 {z : Int} (C : CX κ cc RX5 mL rm) (hd : decode cc pc = .ok (.putfield 171, 3)) (hz : inR z) (kk : J κ k1 k2 a n (up2 σ 1 3 z) L (pc + 3) st) : J κ k1 k2 a n σ L pc (iv z :: .ref (a 1) :: st) := r_putN (k := 3) (ty := .int) C hd 1 (by omega) (fun _ => rfl) (fun _ => rfl) rfl inT2 tyX2_ok nmX2 (by decide) (Nat.lt_of_lt_of_le (Nat.lt_succ_self _) (Nat.le_of_ble_eq_true rfl)) rfl (by decide +kernel) rfl rfl (List.mem_of_getElem? (i := 4) rfl) hz kk
theorem gX1_75 (C : CX κ cc RX1 mL rm) (hd : decode cc pc = .ok (.getfield 75, 3)) (kk : inR (σ 1 4) → J κ k1 k2 a n σ L (pc + 3) (iv (σ 1 4) :: st)) : J κ k1 k2 a n σ L pc (.ref (a 1) :: st) := r_inR (fun hR => r_getN (k := 4) C hd 1 (by omega) (fun _ => rfl) rfl inT2 (by decide) (List.mem_of_getElem? (i := 5) rfl) rfl (kk (hR _ _)))
theorem pX1_75 {z : Int} (C : CX κ cc RX1 mL rm) (hd : decode cc pc = .ok (.putfield 75, 3)) (hz : inR z) (kk : J κ k1 k2 a n (up2 σ 1 4 z) L (pc + 3) st) : J κ k1 k2 a n σ L pc (iv z :: .ref (a 1) :: st) := r_putN (k := 4) (ty := .int) C hd 1 (by omega) (fun _ => rfl) (fun _ => rfl) rfl inT2 tyX2_ok nmX2 (by decide) (Nat.lt_of_lt_of_le (Nat.lt_succ_self _) (Nat.le_of_ble_eq_true rfl)) rfl (by decide +kernel) rfl rfl (List.mem_of_getElem? (i := 5) rfl) hz kk
theorem gX5_174 (C : CX κ cc RX5 mL rm) (hd : decode cc pc = .ok (.getfield 174, 3)) (kk : inR (σ 1 4) → J κ k1 k2 a n σ L (pc + 3) (iv (σ 1 4) :: st)) : J κ k1 k2 a n σ L pc (.ref (a 1) :: st) := r_inR (fun hR => r_getN (k := 4) C hd 1 (by omega) (fun _ => rfl) rfl inT2 (by decide) (List.mem_of_getElem? (i := 6) rfl) rfl (kk (hR _ _)))
theorem pX5_174 {z : Int} (C : CX κ cc RX5 mL rm) (hd : decode cc pc = .ok (.putfield 174, 3)) (hz : inR z) (kk : J κ k1 k2 a n (up2 σ 1 4 z) L (pc + 3) st) : J κ k1 k2 a n σ L pc (iv z :: .ref (a 1) :: st) := r_putN (k := 4) (ty := .int) C hd 1 (by omega) (fun _ => rfl) (fun _ => rfl) rfl inT2 tyX2_ok nmX2 (by decide) (Nat.lt_of_lt_of_le (Nat.lt_succ_self _) (Nat.le_of_ble_eq_true rfl)) rfl (by decide +kernel) rfl rfl (List.mem_of_getElem? (i := 6) rfl) hz kk
theorem gX0_50 (C : CX κ cc RX0 mL rm) (hd : decode cc pc = .ok (.getfield 50, 3)) (kk : inR (σ 2 3) → J κ k1 k2 a n σ L (pc + 3) (iv (σ 2 3) :: st)) : J κ k1 k2 a n σ L pc (.ref (a 2) :: st) := r_inR (fun hR => r_getN (k := 3) C hd 2 (by omega) (fun _ => rfl) rfl inT1 (by decide) (List.mem_of_getElem? (i := 7) rfl) rfl (kk (hR _ _)))
theorem pX0_50 {z : Int} (C : CX κ cc RX0 mL rm) (hd : decode cc pc = .ok (.putfield 50, 3)) (hz : inR z) (kk : J κ k1 k2 a n (up2 σ 2 3 z) L (pc + 3) st) : J κ k1 k2 a n σ L pc (iv z :: .ref (a 2) :: st) := r_putN (k := 3) (ty := .int) C hd 2 (by omega) (fun _ => rfl) (fun _ => rfl) rfl inT1 tyX1_ok nmX1 (by decide) (Nat.lt_of_lt_of_le (Nat.lt_succ_self _) (Nat.le_of_ble_eq_true rfl)) rfl (by decide +kernel) rfl rfl (List.mem_of_getElem? (i := 7) rfl) hz kk
theorem gX3_20 (C : CX κ cc RX3 mL rm) (hd : decode cc pc = .ok (.getfield 20, 3)) (kk : inR (σ 2 3) → J κ k1 k2 a n σ L (pc + 3) (iv (σ 2 3) :: st)) : J κ k1 k2 a n σ L pc (.ref (a 2) :: st) := r_inR (fun hR => r_getN (k := 3) C hd 2 (by omega) (fun _ => rfl) rfl inT1 (by decide) (List.mem_of_getElem? (i := 8) rfl) rfl (kk (hR _ _)))
theorem pX3_20 {z : Int} (C : CX κ cc RX3 mL rm) (hd : decode cc pc = .ok (.putfield 20, 3)) (hz : inR z) (kk : J κ k1 k2 a n (up2 σ 2 3 z) L (pc + 3) st) : J κ k1 k2 a n σ L pc (iv z :: .ref (a 2) :: st) := r_putN (k := 3) (ty := .int) C hd 2 (by omega) (fun _ => rfl) (fun _ => rfl) rfl inT1 tyX1_ok nmX1 (by decide) (Nat.lt_of_lt_of_le (Nat.lt_succ_self _) (Nat.le_of_ble_eq_true rfl)) rfl (by decide +kernel) rfl rfl (List.mem_of_getElem? (i := 8) rfl) hz kk
theorem gX5_183 (C : CX κ cc RX5 mL rm) (hd : decode cc pc = .ok (.getfield 183, 3)) (kk : inR (σ 4 1) → J κ k1 k2 a n σ L (pc + 3) (iv (σ 4 1) :: st)) : J κ k1 k2 a n σ L pc (.ref (a 4) :: st) := r_inR (fun hR => r_getN (k := 1) C hd 4 (by omega) (fun _ => rfl) rfl inT3 (by decide) (List.mem_of_getElem? (i := 9) rfl) rfl (kk (hR _ _)))
theorem pX5_183 {z : Int} (C : CX κ cc RX5 mL rm) (hd : decode cc pc = .ok (.putfield 183, 3)) (hz : inR z) (kk : J κ k1 k2 a n (up2 σ 4 1 z) L (pc + 3) st) : J κ k1 k2 a n σ L pc (iv z :: .ref (a 4) :: st) := r_putN (k := 1) (ty := .int) C hd 4 (by omega) (fun _ => rfl) (fun _ => rfl) rfl inT3 tyX3_ok nmX3 (by decide) (Nat.lt_of_lt_of_le (Nat.lt_succ_self _) (Nat.le_of_ble_eq_true rfl)) rfl (by decide +kernel) rfl rfl (List.mem_of_getElem? (i := 9) rfl) hz kk
theorem gX5_87 (i : Nat) (hi : i < n) (C : CX κ cc RX5 mL rm) (hd : decode cc pc = .ok (.getfield 87, 3)) (kk : inR (σ (38 + 5 * i) 1) → J κ k1 k2 a n σ L (pc + 3) (iv (σ (38 + 5 * i) 1) :: st)) : J κ k1 k2 a n σ L pc (.ref (a (38 + 5 * i)) :: st) := r_inR (fun hR => r_getN (k := 1) C hd (38 + 5 * i) (by omega) (fun _ => cF_v0 i) rfl inT4 (by decide) (List.mem_of_getElem? (i := 10) rfl) rfl (kk (hR _ _)))
theorem gX1_42 (i : Nat) (hi : i < n) (C : CX κ cc RX1 mL rm) (hd : decode cc pc = .ok (.getfield 42, 3)) (kk : J κ k1 k2 a n σ L (pc + 3) (.ref (a (39 + 5 * i)) :: st)) : J κ k1 k2 a n σ L pc (.ref (a (38 + 5 * i)) :: st) := r_getN (k := 2) C hd (38 + 5 * i) (by omega) (fun _ => cF_v0 i) rfl inT4 (by decide) (List.mem_of_getElem? (i := 11) rfl) rfl kk
theorem gX5_94 (i : Nat) (hi : i < n) (C : CX κ cc RX5 mL rm) (hd : decode cc pc = .ok (.getfield 94, 3)) (kk : J κ k1 k2 a n σ L (pc + 3) (.ref (a (39 + 5 * i)) :: st)) : J κ k1 k2 a n σ L pc (.ref (a (38 + 5 * i)) :: st) := r_getN (k := 2) C hd (38 + 5 * i) (by omega) (fun _ => cF_v0 i) rfl inT4 (by decide) (List.mem_of_getElem? (i := 12) rfl) rfl kk
theorem gX5_97 (i : Nat) (hi : i < n) (C : CX κ cc RX5 mL rm) (hd : decode cc pc = .ok (.getfield 97, 3)) (kk : J κ k1 k2 a n σ L (pc + 3) (.ref (a (40 + 5 * i)) :: st)) : J κ k1 k2 a n σ L pc (.ref (a (38 + 5 * i)) :: st) := r_getN (k := 3) C hd (38 + 5 * i) (by omega) (fun _ => cF_v0 i) rfl inT4 (by decide) (List.mem_of_getElem? (i := 13) rfl) rfl kk
theorem gX1_91 (i : Nat) (hi : i < n) (C : CX κ cc RX1 mL rm) (hd : decode cc pc = .ok (.getfield 91, 3)) (kk : J κ k1 k2 a n σ L (pc + 3) (.ref (a (40 + 5 * i)) :: st)) : J κ k1 k2 a n σ L pc (.ref (a (38 + 5 * i)) :: st) := r_getN (k := 3) C hd (38 + 5 * i) (by omega) (fun _ => cF_v0 i) rfl inT4 (by decide) (List.mem_of_getElem? (i := 14) rfl) rfl kk
theorem gX5_107 (i : Nat) (hi : i < n) (C : CX κ cc RX5 mL rm) (hd : decode cc pc = .ok (.getfield 107, 3)) (kk : inR (σ (38 + 5 * i) 4) → J κ k1 k2 a n σ L (pc + 3) (iv (σ (38 + 5 * i) 4) :: st)) : J κ k1 k2 a n σ L pc (.ref (a (38 + 5 * i)) :: st) := r_inR (fun hR => r_getN (k := 4) C hd (38 + 5 * i) (by omega) (fun _ => cF_v0 i) rfl inT4 (by decide) (List.mem_of_getElem? (i := 15) rfl) rfl (kk (hR _ _)))
theorem pX5_107 (i : Nat) (hi : i < n) {z : Int} (C : CX κ cc RX5 mL rm) (hd : decode cc pc = .ok (.putfield 107, 3)) (hz : z = 0 ∨ z = 1) (kk : J κ k1 k2 a n (up2 σ (38 + 5 * i) 4 z) L (pc + 3) st) : J κ k1 k2 a n σ L pc (iv z :: .ref (a (38 + 5 * i)) :: st) := r_putN (k := 4) (ty := .boolean) C hd (38 + 5 * i) (by omega) (fun _ => cF_v0 i) (fun _ => (cF_v0 i).trans rfl) rfl inT4 tyX4_ok nmX4 (by decide) (Nat.lt_of_lt_of_le (Nat.lt_succ_self _) (Nat.le_of_ble_eq_true rfl)) rfl (by decide +kernel) (nar_b hz) (fit_b hz) (List.mem_of_getElem? (i := 15) rfl) (in_b hz) kk
theorem gX1_82 (i : Nat) (hi : i < n) (C : CX κ cc RX1 mL rm) (hd : decode cc pc = .ok (.getfield 82, 3)) (kk : inR (σ (38 + 5 * i) 4) → J κ k1 k2 a n σ L (pc + 3) (iv (σ (38 + 5 * i) 4) :: st)) : J κ k1 k2 a n σ L pc (.ref (a (38 + 5 * i)) :: st) := r_inR (fun hR => r_getN (k := 4) C hd (38 + 5 * i) (by omega) (fun _ => cF_v0 i) rfl inT4 (by decide) (List.mem_of_getElem? (i := 16) rfl) rfl (kk (hR _ _)))
theorem pX1_82 (i : Nat) (hi : i < n) {z : Int} (C : CX κ cc RX1 mL rm) (hd : decode cc pc = .ok (.putfield 82, 3)) (hz : z = 0 ∨ z = 1) (kk : J κ k1 k2 a n (up2 σ (38 + 5 * i) 4 z) L (pc + 3) st) : J κ k1 k2 a n σ L pc (iv z :: .ref (a (38 + 5 * i)) :: st) := r_putN (k := 4) (ty := .boolean) C hd (38 + 5 * i) (by omega) (fun _ => cF_v0 i) (fun _ => (cF_v0 i).trans rfl) rfl inT4 tyX4_ok nmX4 (by decide) (Nat.lt_of_lt_of_le (Nat.lt_succ_self _) (Nat.le_of_ble_eq_true rfl)) rfl (by decide +kernel) (nar_b hz) (fit_b hz) (List.mem_of_getElem? (i := 16) rfl) (in_b hz) kk
theorem gX2_42 (i : Nat) (hi : i < n) (C : CX κ cc RX2 mL rm) (hd : decode cc pc = .ok (.getfield 42, 3)) (kk : inR (σ (38 + 5 * i) 7) → J κ k1 k2 a n σ L (pc + 3) (iv (σ (38 + 5 * i) 7) :: st)) : J κ k1 k2 a n σ L pc (.ref (a (38 + 5 * i)) :: st) := r_inR (fun hR => r_getN (k := 7) C hd (38 + 5 * i) (by omega) (fun _ => cF_v0 i) rfl inT4 (by decide) (List.mem_of_getElem? (i := 17) rfl) rfl (kk (hR _ _)))
theorem pX2_42 (i : Nat) (hi : i < n) {z : Int} (C : CX κ cc RX2 mL rm) (hd : decode cc pc = .ok (.putfield 42, 3)) (hz : inR z) (kk : J κ k1 k2 a n (up2 σ (38 + 5 * i) 7 z) L (pc + 3) st) : J κ k1 k2 a n σ L pc (iv z :: .ref (a (38 + 5 * i)) :: st) := r_putN (k := 7) (ty := .int) C hd (38 + 5 * i) (by omega) (fun _ => cF_v0 i) (fun _ => (cF_v0 i).trans rfl) rfl inT4 tyX4_ok nmX4 (by decide) (Nat.lt_of_lt_of_le (Nat.lt_succ_self _) (Nat.le_of_ble_eq_true rfl)) rfl (by decide +kernel) rfl rfl (List.mem_of_getElem? (i := 17) rfl) hz kk
theorem gX5_154 (i : Nat) (hi : i < n) (C : CX κ cc RX5 mL rm) (hd : decode cc pc = .ok (.getfield 154, 3)) (kk : inR (σ (38 + 5 * i) 7) → J κ k1 k2 a n σ L (pc + 3) (iv (σ (38 + 5 * i) 7) :: st)) : J κ k1 k2 a n σ L pc (.ref (a (38 + 5 * i)) :: st) := r_inR (fun hR => r_getN (k := 7) C hd (38 + 5 * i) (by omega) (fun _ => cF_v0 i) rfl inT4 (by decide) (List.mem_of_getElem? (i := 18) rfl) rfl (kk (hR _ _)))
theorem pX5_154 (i : Nat) (hi : i < n) {z : Int} (C : CX κ cc RX5 mL rm) (hd : decode cc pc = .ok (.putfield 154, 3)) (hz : inR z) (kk : J κ k1 k2 a n (up2 σ (38 + 5 * i) 7 z) L (pc + 3) st) : J κ k1 k2 a n σ L pc (iv z :: .ref (a (38 + 5 * i)) :: st) := r_putN (k := 7) (ty := .int) C hd (38 + 5 * i) (by omega) (fun _ => cF_v0 i) (fun _ => (cF_v0 i).trans rfl) rfl inT4 tyX4_ok nmX4 (by decide) (Nat.lt_of_lt_of_le (Nat.lt_succ_self _) (Nat.le_of_ble_eq_true rfl)) rfl (by decide +kernel) rfl rfl (List.mem_of_getElem? (i := 18) rfl) hz kk
end LN
def RC (a : Nat → Nat) (n : Nat) (σ : ST) (c0 : Nat) (cls : String) : Prop := c0 < 38 + 5 * n ∧ ∃ (ci : Nat) (fs : List Value) (q : vw_C), (∀ D, cF D a n c0 (σ c0) = .inr (ci, fs)) ∧ vwCl[ci]? = some q ∧ q.1 = cls
theorem rc3 {a : Nat → Nat} {n : Nat} {σ : ST} : RC a n σ 3 RX0 := ⟨by omega, 0, _, _, fun _ => rfl, rfl, rfl⟩
theorem rc2 {a : Nat → Nat} {n : Nat} {σ : ST} : RC a n σ 2 RX1 := ⟨by omega, 1, _, _, fun _ => rfl, rfl, rfl⟩
theorem rc1 {a : Nat → Nat} {n : Nat} {σ : ST} : RC a n σ 1 RX2 := ⟨by omega, 2, _, _, fun _ => rfl, rfl, rfl⟩
theorem rc4 {a : Nat → Nat} {n : Nat} {σ : ST} : RC a n σ 4 RX3 := ⟨by omega, 3, _, _, fun _ => rfl, rfl, rfl⟩
theorem rc0 {a : Nat → Nat} {n : Nat} {σ : ST} : RC a n σ 0 RX5 := ⟨by omega, 5, _, _, fun _ => rfl, rfl, rfl⟩
theorem rc18 {a : Nat → Nat} {n : Nat} {σ : ST} : RC a n σ 18 RX6 := ⟨by omega, 6, _, _, fun _ => rfl, rfl, rfl⟩
theorem rcV {a : Nat → Nat} {n : Nat} {σ : ST} {i : Nat} (hi : i < n) : RC a n σ (38 + 5 * i) RX4 := ⟨by omega, 4, _, _, fun _ => cF_v0 i, rfl, rfl⟩
theorem lkL_13 : LKV RL 13 yX5_bar cX5_bar 2 (some .int) 1 := ⟨tw158, tw159, tw160, tw1, tw161, by decide +kernel, by decide +kernel, by decide +kernel⟩
theorem lkX5_61 : LKS RX5 61 yX5_within cX5_within 3 (some .boolean) 3 := ⟨tw162, tw163, tw1, tw164, by decide +kernel, by decide +kernel, by decide +kernel⟩
theorem lkX5_66 : LKV RX5 66 yX5_answer cX5_answer 2 (some .int) 1 := ⟨tw166, tw168, ts0, tw1, tw169, by decide +kernel, by decide +kernel, by decide +kernel⟩
theorem lkX5_70 : LKV RX5 70 yX2_addBar cX2_addBar 2 (some .int) 1 := ⟨tw172, tw173, tw174, tw2, tw175, by decide +kernel, by decide +kernel, by decide +kernel⟩
theorem lkL_18 : LKV RL 18 yX5_voice cX5_voice 4 (some .int) 2 := ⟨tw177, tw178, tw179, tw1, tw180, by decide +kernel, by decide +kernel, by decide +kernel⟩
theorem lkX5_73 : LKV RX5 73 yX2_addVoice cX2_addVoice 3 (some .int) 2 := ⟨tw181, tw182, tw183, tw2, tw184, by decide +kernel, by decide +kernel, by decide +kernel⟩
theorem lkL_23 : LKV RL 23 yX5_as cX5_as 4 (some .int) 2 := ⟨tw224, tw225, tw226, tw1, tw227, by decide +kernel, by decide +kernel, by decide +kernel⟩
theorem lkX5_77 : LKV RX5 77 yX2_voiceAt cX2_voiceAt 2 (some (.object "PartRoom$Voice")) 1 := ⟨tw228, tw229, tw230, tw2, tw231, by decide +kernel, by decide +kernel, by decide +kernel⟩
theorem lkX5_81 : LKV RX5 81 yX4_isOf cX4_isOf 2 (some .boolean) 1 := ⟨tw232, tw233, tw234, tw7, tw235, by decide +kernel, by decide +kernel, by decide +kernel⟩
theorem lkL_27 : LKV RL 27 yX5_notes cX5_notes 7 (some .int) 4 := ⟨tw236, tw237, tw238, tw1, tw239, by decide +kernel, by decide +kernel, by decide +kernel⟩
theorem lkX5_91 : LKV RX5 91 yX2_hasBar cX2_hasBar 2 (some .boolean) 1 := ⟨tw240, tw241, tw242, tw2, tw243, by decide +kernel, by decide +kernel, by decide +kernel⟩
theorem lkL_32 : LKV RL 32 yX5_sign cX5_sign 4 (some .int) 2 := ⟨tw244, tw245, tw246, tw1, tw247, by decide +kernel, by decide +kernel, by decide +kernel⟩
theorem lkL_36 : LKV RL 36 yX5_cut cX5_cut 4 (some .int) 3 := ⟨tw248, tw249, tw250, tw1, tw251, by decide +kernel, by decide +kernel, by decide +kernel⟩
theorem lkX5_103 : LKV RX5 103 yX2_setCut cX2_setCut 6 (some .int) 3 := ⟨tw252, tw253, tw254, tw2, tw255, by decide +kernel, by decide +kernel, by decide +kernel⟩
theorem lkX2_39 : LKV RX2 39 yX2_isThere cX2_isThere 2 (some .boolean) 1 := ⟨tw256, tw257, tw258, tw2, tw259, by decide +kernel, by decide +kernel, by decide +kernel⟩
theorem lkX2_35 : LKV RX2 35 yX2_hasBar cX2_hasBar 2 (some .boolean) 1 := ⟨tw260, tw241, tw242, tw2, tw243, by decide +kernel, by decide +kernel, by decide +kernel⟩
theorem lkL_41 : LKV RL 41 yX5_stage cX5_stage 5 (some .int) 2 := ⟨tw261, tw262, tw263, tw1, tw264, by decide +kernel, by decide +kernel, by decide +kernel⟩
theorem lkL_45 : LKV RL 45 yX5_rest cX5_rest 3 (some .int) 2 := ⟨tw265, tw266, tw267, tw1, tw268, by decide +kernel, by decide +kernel, by decide +kernel⟩
theorem lkX5_111 : LKV RX5 111 yX1_draw cX1_draw 5 none 2 := ⟨tw269, tw270, tw271, tw3, tw272, by decide +kernel, by decide +kernel, by decide +kernel⟩
theorem lkX1_32 : LKV RX1 32 yX2_voiceAt cX2_voiceAt 2 (some (.object "PartRoom$Voice")) 1 := ⟨tw273, tw229, tw230, tw2, tw231, by decide +kernel, by decide +kernel, by decide +kernel⟩
theorem lkX1_38 : LKV RX1 38 yX2_isThere cX2_isThere 2 (some .boolean) 1 := ⟨tw274, tw257, tw258, tw2, tw259, by decide +kernel, by decide +kernel, by decide +kernel⟩
theorem lkX5_115 : LKV RX5 115 yX1_restsAt cX1_restsAt 4 (some .int) 1 := ⟨tw275, tw276, tw277, tw3, tw278, by decide +kernel, by decide +kernel, by decide +kernel⟩
theorem lkX1_58 : LKV RX1 58 yX1_opensRests cX1_opensRests 2 (some .boolean) 1 := ⟨tw279, tw280, tw281, tw3, tw282, by decide +kernel, by decide +kernel, by decide +kernel⟩
theorem lkX1_51 : LKV RX1 51 yX1_rests cX1_rests 2 (some .boolean) 1 := ⟨tw283, tw284, tw285, tw3, tw286, by decide +kernel, by decide +kernel, by decide +kernel⟩
theorem lkX1_54 : LKV RX1 54 yX1_bears cX1_bears 3 (some .boolean) 2 := ⟨tw287, tw289, ts1, tw3, tw290, by decide +kernel, by decide +kernel, by decide +kernel⟩
theorem lkX1_45 : LKV RX1 45 yX1_has cX1_has 2 (some .boolean) 1 := ⟨tw291, tw293, ts2, tw3, tw294, by decide +kernel, by decide +kernel, by decide +kernel⟩
theorem lkX1_61 : LKV RX1 61 yX1_restsLength cX1_restsLength 4 (some .int) 1 := ⟨tw295, tw296, tw297, tw3, tw298, by decide +kernel, by decide +kernel, by decide +kernel⟩
theorem lkL_49 : LKV RL 49 yX5_cue cX5_cue 3 (some .int) 2 := ⟨tw300, tw301, tw302, tw1, tw303, by decide +kernel, by decide +kernel, by decide +kernel⟩
theorem lkX5_118 : LKV RX5 118 yX1_placeOf cX1_placeOf 3 (some .int) 1 := ⟨tw304, tw305, tw306, tw3, tw307, by decide +kernel, by decide +kernel, by decide +kernel⟩
theorem lkX5_121 : LKV RX5 121 yX1_cueAt cX1_cueAt 6 (some .int) 1 := ⟨tw308, tw309, tw310, tw3, tw311, by decide +kernel, by decide +kernel, by decide +kernel⟩
theorem lkX1_69 : LKV RX1 69 yX1_plays cX1_plays 2 (some .boolean) 1 := ⟨tw312, tw313, tw314, tw3, tw315, by decide +kernel, by decide +kernel, by decide +kernel⟩
theorem lkX1_72 : LKV RX1 72 yX1_restsAhead cX1_restsAhead 3 (some .boolean) 1 := ⟨tw316, tw318, ts3, tw3, tw319, by decide +kernel, by decide +kernel, by decide +kernel⟩
theorem lkX1_78 : LKV RX1 78 yX1_heardAhead cX1_heardAhead 6 (some .int) 2 := ⟨tw320, tw322, ts4, tw3, tw323, by decide +kernel, by decide +kernel, by decide +kernel⟩
theorem lkX1_86 : LKS RX1 86 yJ9_min_7cf53 cJ9_min_7cf53 2 (some .int) 2 := ⟨tw324, tw325, tw8, tw326, by decide +kernel, by decide +kernel, by decide +kernel⟩
theorem lkL_53 : LKV RL 53 yX5_key cX5_key 3 (some .int) 1 := ⟨tw327, tw328, tw329, tw1, tw330, by decide +kernel, by decide +kernel, by decide +kernel⟩
theorem lkL_57 : LKV RL 57 yX5_written cX5_written 3 (some .int) 1 := ⟨tw331, tw332, tw333, tw1, tw334, by decide +kernel, by decide +kernel, by decide +kernel⟩
theorem lkX5_124 : LKS RX5 124 yJ9_floorMod_7cf53 cJ9_floorMod_7cf53 3 (some .int) 2 := ⟨tw335, tw336, tw8, tw337, by decide +kernel, by decide +kernel, by decide +kernel⟩
theorem lkL_61 : LKV RL 61 yX5_due cX5_due 3 (some .int) 1 := ⟨tw338, tw339, tw340, tw1, tw341, by decide +kernel, by decide +kernel, by decide +kernel⟩
theorem lkL_65 : LKV RL 65 yX5_paper cX5_paper 3 (some .int) 2 := ⟨tw342, tw343, tw344, tw1, tw345, by decide +kernel, by decide +kernel, by decide +kernel⟩
theorem lkL_69 : LKV RL 69 yX5_need cX5_need 3 (some .int) 1 := ⟨tw346, tw347, tw348, tw1, tw349, by decide +kernel, by decide +kernel, by decide +kernel⟩
theorem lkL_73 : LKV RL 73 yX5_pages cX5_pages 4 (some .int) 2 := ⟨tw350, tw351, tw352, tw1, tw353, by decide +kernel, by decide +kernel, by decide +kernel⟩
theorem lkX5_129 : LKV RX5 129 yX5_plan cX5_plan 3 none 2 := ⟨tw354, tw356, ts5, tw1, tw357, by decide +kernel, by decide +kernel, by decide +kernel⟩
theorem lkX5_190 : LKV RX5 190 yX4_needOf cX4_needOf 2 (some .int) 1 := ⟨tw358, tw359, tw360, tw7, tw361, by decide +kernel, by decide +kernel, by decide +kernel⟩
theorem lkX5_193 : LKV RX5 193 yX0_plan cX0_plan 6 none 3 := ⟨tw362, tw363, tw364, tw4, tw365, by decide +kernel, by decide +kernel, by decide +kernel⟩
theorem lkX0_44 : LKV RX0 44 yX0_measure cX0_measure 2 none 0 := ⟨tw366, tw368, ts6, tw4, tw369, by decide +kernel, by decide +kernel, by decide +kernel⟩
theorem lkX0_59 : LKV RX0 59 yX1_plays cX1_plays 2 (some .boolean) 1 := ⟨tw370, tw313, tw314, tw3, tw315, by decide +kernel, by decide +kernel, by decide +kernel⟩
theorem lkX0_63 : LKV RX0 63 yX1_notesAt cX1_notesAt 2 (some .int) 1 := ⟨tw371, tw372, tw373, tw3, tw374, by decide +kernel, by decide +kernel, by decide +kernel⟩
theorem lkX0_67 : LKV RX0 67 yX1_cueAt cX1_cueAt 6 (some .int) 1 := ⟨tw375, tw309, tw310, tw3, tw311, by decide +kernel, by decide +kernel, by decide +kernel⟩
theorem lkX0_70 : LKV RX0 70 yX1_opensRests cX1_opensRests 2 (some .boolean) 1 := ⟨tw376, tw280, tw281, tw3, tw282, by decide +kernel, by decide +kernel, by decide +kernel⟩
theorem lkX0_47 : LKV RX0 47 yX0_timeTurns cX0_timeTurns 4 none 0 := ⟨tw377, tw379, ts7, tw4, tw380, by decide +kernel, by decide +kernel, by decide +kernel⟩
theorem lkX0_73 : LKV RX0 73 yX1_rests cX1_rests 2 (some .boolean) 1 := ⟨tw381, tw284, tw285, tw3, tw286, by decide +kernel, by decide +kernel, by decide +kernel⟩
theorem lkX0_76 : LKV RX0 76 yX1_secondsAt cX1_secondsAt 2 (some .int) 1 := ⟨tw382, tw383, tw384, tw3, tw385, by decide +kernel, by decide +kernel, by decide +kernel⟩
theorem lkX0_55 : LKV RX0 55 yX0_chooseFrom cX0_chooseFrom 7 none 1 := ⟨tw386, tw388, ts8, tw4, tw389, by decide +kernel, by decide +kernel, by decide +kernel⟩
theorem lkX0_82 : LKV RX0 82 yX0_fill cX0_fill 5 (some .int) 1 := ⟨tw390, tw392, ts9, tw4, tw393, by decide +kernel, by decide +kernel, by decide +kernel⟩
theorem lkX0_79 : LKV RX0 79 yX0_widthAsFirst cX0_widthAsFirst 2 (some .int) 1 := ⟨tw394, tw396, ts10, tw4, tw397, by decide +kernel, by decide +kernel, by decide +kernel⟩
theorem lkX0_85 : LKV RX0 85 yX0_isBadTurn cX0_isBadTurn 2 (some .boolean) 1 := ⟨tw398, tw400, ts11, tw4, tw401, by decide +kernel, by decide +kernel, by decide +kernel⟩
theorem lkX5_133 : LKV RX5 133 yX0_pageCount cX0_pageCount 1 (some .int) 0 := ⟨tw402, tw403, tw404, tw4, tw405, by decide +kernel, by decide +kernel, by decide +kernel⟩
theorem lkX5_138 : LKV RX5 138 yX0_badTurns cX0_badTurns 1 (some .int) 0 := ⟨tw407, tw408, tw409, tw4, tw410, by decide +kernel, by decide +kernel, by decide +kernel⟩
theorem lkL_77 : LKV RL 77 yX5_page cX5_page 4 (some .int) 2 := ⟨tw411, tw412, tw413, tw1, tw414, by decide +kernel, by decide +kernel, by decide +kernel⟩
theorem lkX5_141 : LKV RX5 141 yX0_firstBar cX0_firstBar 2 (some .int) 1 := ⟨tw415, tw416, tw417, tw4, tw418, by decide +kernel, by decide +kernel, by decide +kernel⟩
theorem lkX0_88 : LKV RX0 88 yX0_placeOfPage cX0_placeOfPage 4 (some .int) 1 := ⟨tw419, tw421, ts12, tw4, tw422, by decide +kernel, by decide +kernel, by decide +kernel⟩
theorem lkX0_91 : LKV RX0 91 yX1_barAt cX1_barAt 2 (some .int) 1 := ⟨tw423, tw424, tw425, tw3, tw426, by decide +kernel, by decide +kernel, by decide +kernel⟩
theorem lkL_81 : LKV RL 81 yX5_free cX5_free 4 (some .int) 2 := ⟨tw427, tw428, tw429, tw1, tw430, by decide +kernel, by decide +kernel, by decide +kernel⟩
theorem lkX5_144 : LKV RX5 144 yX0_freeBehind cX0_freeBehind 3 (some .int) 1 := ⟨tw431, tw432, tw433, tw4, tw434, by decide +kernel, by decide +kernel, by decide +kernel⟩
theorem lkL_85 : LKV RL 85 yX5_systems cX5_systems 4 (some .int) 2 := ⟨tw436, tw437, tw438, tw1, tw439, by decide +kernel, by decide +kernel, by decide +kernel⟩
theorem lkX5_147 : LKV RX5 147 yX0_systemsOf cX0_systemsOf 3 (some .int) 1 := ⟨tw440, tw441, tw442, tw4, tw443, by decide +kernel, by decide +kernel, by decide +kernel⟩
theorem lkL_89 : LKV RL 89 yX5_lay cX5_lay 3 (some .int) 1 := ⟨tw444, tw445, tw446, tw1, tw447, by decide +kernel, by decide +kernel, by decide +kernel⟩
theorem lkX5_150 : LKV RX5 150 yX4_keepLaid cX4_keepLaid 4 none 2 := ⟨tw448, tw449, tw450, tw7, tw451, by decide +kernel, by decide +kernel, by decide +kernel⟩
theorem lkX4_47 : LKV RX4 47 yX0_pageCount cX0_pageCount 1 (some .int) 0 := ⟨tw452, tw403, tw404, tw4, tw405, by decide +kernel, by decide +kernel, by decide +kernel⟩
theorem lkX4_53 : LKV RX4 53 yX0_firstBar cX0_firstBar 2 (some .int) 1 := ⟨tw453, tw416, tw417, tw4, tw418, by decide +kernel, by decide +kernel, by decide +kernel⟩
theorem lkX4_57 : LKV RX4 57 yX4_markOf cX4_markOf 3 (some .int) 2 := ⟨tw454, tw456, ts13, tw7, tw457, by decide +kernel, by decide +kernel, by decide +kernel⟩
theorem lkX4_38 : LKV RX4 38 yX2_isThere cX2_isThere 2 (some .boolean) 1 := ⟨tw458, tw257, tw258, tw2, tw259, by decide +kernel, by decide +kernel, by decide +kernel⟩
theorem lkL_93 : LKV RL 93 yX5_stale cX5_stale 3 (some .int) 1 := ⟨tw459, tw460, tw461, tw1, tw462, by decide +kernel, by decide +kernel, by decide +kernel⟩
theorem lkX5_157 : LKV RX5 157 yX4_stalePages cX4_stalePages 6 (some .int) 1 := ⟨tw463, tw464, tw465, tw7, tw466, by decide +kernel, by decide +kernel, by decide +kernel⟩
theorem lkL_97 : LKV RL 97 yX5_tell cX5_tell 2 (some .int) 1 := ⟨tw467, tw468, tw469, tw1, tw470, by decide +kernel, by decide +kernel, by decide +kernel⟩
theorem lkX5_161 : LKV RX5 161 yX3_add cX3_add 2 (some .int) 1 := ⟨tw471, tw472, tw473, tw5, tw474, by decide +kernel, by decide +kernel, by decide +kernel⟩
theorem lkL_101 : LKV RL 101 yX5_check cX5_check 3 (some .int) 1 := ⟨tw476, tw477, tw478, tw1, tw479, by decide +kernel, by decide +kernel, by decide +kernel⟩
theorem lkX5_164 : LKV RX5 164 yX3_takeAll cX3_takeAll 2 (some .int) 0 := ⟨tw480, tw481, tw482, tw5, tw483, by decide +kernel, by decide +kernel, by decide +kernel⟩
theorem lkX5_167 : LKV RX5 167 yX3_compare cX3_compare 6 (some .int) 2 := ⟨tw484, tw485, tw486, tw5, tw487, by decide +kernel, by decide +kernel, by decide +kernel⟩
theorem lkX3_25 : LKV RX3 25 yX1_plays cX1_plays 2 (some .boolean) 1 := ⟨tw488, tw313, tw314, tw3, tw315, by decide +kernel, by decide +kernel, by decide +kernel⟩
theorem lkX3_29 : LKV RX3 29 yX1_opensRests cX1_opensRests 2 (some .boolean) 1 := ⟨tw489, tw280, tw281, tw3, tw282, by decide +kernel, by decide +kernel, by decide +kernel⟩
theorem lkX3_32 : LKV RX3 32 yX1_notesAt cX1_notesAt 2 (some .int) 1 := ⟨tw490, tw372, tw373, tw3, tw374, by decide +kernel, by decide +kernel, by decide +kernel⟩
theorem lkX3_36 : LKV RX3 36 yX1_restsLength cX1_restsLength 4 (some .int) 1 := ⟨tw491, tw296, tw297, tw3, tw298, by decide +kernel, by decide +kernel, by decide +kernel⟩
theorem lkL_105 : LKV RL 105 yX5_count cX5_count 2 (some .int) 1 := ⟨tw492, tw493, tw494, tw1, tw495, by decide +kernel, by decide +kernel, by decide +kernel⟩
theorem lkX5_177 : LKV RX5 177 yX2_cutBars cX2_cutBars 3 (some .int) 0 := ⟨tw496, tw497, tw498, tw2, tw499, by decide +kernel, by decide +kernel, by decide +kernel⟩
theorem lkX5_180 : LKV RX5 180 yX2_secondsLeft cX2_secondsLeft 3 (some .int) 0 := ⟨tw500, tw501, tw502, tw2, tw503, by decide +kernel, by decide +kernel, by decide +kernel⟩
theorem lkX5_186 : LKV RX5 186 yX2_laidVoices cX2_laidVoices 4 (some .int) 0 := ⟨tw504, tw505, tw506, tw2, tw507, by decide +kernel, by decide +kernel, by decide +kernel⟩
theorem lkL_109 : LKV RL 109 yX5_found cX5_found 2 (some .int) 1 := ⟨tw508, tw509, tw510, tw1, tw511, by decide +kernel, by decide +kernel, by decide +kernel⟩
theorem lkL_17 : LKV RL 17 yX6_bar cX6_bar 2 (some .int) 1 := ⟨tw604, tw605, tw606, tw6, tw607, by decide +kernel, by decide +kernel, by decide +kernel⟩
theorem lkX6_85 : LKS RX6 85 yX6_in cX6_in 3 (some .boolean) 3 := ⟨tw608, tw609, tw6, tw610, by decide +kernel, by decide +kernel, by decide +kernel⟩
theorem lkX6_92 : LKV RX6 92 yX6_finds cX6_finds 2 (some .int) 1 := ⟨tw611, tw613, ts14, tw6, tw614, by decide +kernel, by decide +kernel, by decide +kernel⟩
theorem lkL_22 : LKV RL 22 yX6_voice cX6_voice 3 (some .int) 2 := ⟨tw616, tw617, tw618, tw6, tw619, by decide +kernel, by decide +kernel, by decide +kernel⟩
theorem lkL_26 : LKV RL 26 yX6_as cX6_as 3 (some .int) 2 := ⟨tw620, tw621, tw622, tw6, tw623, by decide +kernel, by decide +kernel, by decide +kernel⟩
theorem lkX6_96 : LKV RX6 96 yX6_isVoice cX6_isVoice 2 (some .boolean) 1 := ⟨tw624, tw626, ts15, tw6, tw627, by decide +kernel, by decide +kernel, by decide +kernel⟩
theorem lkL_31 : LKV RL 31 yX6_notes cX6_notes 6 (some .int) 4 := ⟨tw628, tw629, tw630, tw6, tw631, by decide +kernel, by decide +kernel, by decide +kernel⟩
theorem lkX6_100 : LKV RX6 100 yX6_isBar cX6_isBar 2 (some .boolean) 1 := ⟨tw632, tw634, ts16, tw6, tw635, by decide +kernel, by decide +kernel, by decide +kernel⟩
theorem lkL_35 : LKV RL 35 yX6_sign cX6_sign 4 (some .int) 2 := ⟨tw636, tw637, tw638, tw6, tw639, by decide +kernel, by decide +kernel, by decide +kernel⟩
theorem lkL_40 : LKV RL 40 yX6_cut cX6_cut 6 (some .int) 3 := ⟨tw640, tw641, tw642, tw6, tw643, by decide +kernel, by decide +kernel, by decide +kernel⟩
theorem lkX6_103 : LKV RX6 103 yX6_isCut cX6_isCut 2 (some .boolean) 1 := ⟨tw644, tw646, ts17, tw6, tw647, by decide +kernel, by decide +kernel, by decide +kernel⟩
theorem lkL_44 : LKV RL 44 yX6_stage cX6_stage 4 (some .int) 2 := ⟨tw648, tw649, tw650, tw6, tw651, by decide +kernel, by decide +kernel, by decide +kernel⟩
theorem lkL_48 : LKV RL 48 yX6_rest cX6_rest 5 (some .int) 2 := ⟨tw652, tw653, tw654, tw6, tw655, by decide +kernel, by decide +kernel, by decide +kernel⟩
theorem lkX6_116 : LKV RX6 116 yX6_findRow cX6_findRow 2 none 0 := ⟨tw656, tw658, ts18, tw6, tw659, by decide +kernel, by decide +kernel, by decide +kernel⟩
theorem lkX6_113 : LKV RX6 113 yX6_begins cX6_begins 3 (some .boolean) 2 := ⟨tw660, tw662, ts19, tw6, tw663, by decide +kernel, by decide +kernel, by decide +kernel⟩
theorem lkX6_109 : LKV RX6 109 yX6_rests cX6_rests 3 (some .boolean) 2 := ⟨tw664, tw666, ts20, tw6, tw667, by decide +kernel, by decide +kernel, by decide +kernel⟩
theorem lkX6_119 : LKV RX6 119 yX6_restsFrom cX6_restsFrom 4 (some .int) 2 := ⟨tw668, tw670, ts21, tw6, tw671, by decide +kernel, by decide +kernel, by decide +kernel⟩
theorem lkL_52 : LKV RL 52 yX6_cue cX6_cue 4 (some .int) 2 := ⟨tw672, tw673, tw674, tw6, tw675, by decide +kernel, by decide +kernel, by decide +kernel⟩
theorem lkX6_123 : LKV RX6 123 yX6_cueAt cX6_cueAt 7 (some .int) 2 := ⟨tw676, tw678, ts22, tw6, tw679, by decide +kernel, by decide +kernel, by decide +kernel⟩
theorem lkL_56 : LKV RL 56 yX6_key cX6_key 3 (some .int) 1 := ⟨tw680, tw681, tw682, tw6, tw683, by decide +kernel, by decide +kernel, by decide +kernel⟩
theorem lkL_60 : LKV RL 60 yX6_written cX6_written 3 (some .int) 1 := ⟨tw684, tw685, tw686, tw6, tw687, by decide +kernel, by decide +kernel, by decide +kernel⟩
theorem lkL_64 : LKV RL 64 yX6_due cX6_due 3 (some .int) 1 := ⟨tw688, tw689, tw690, tw6, tw691, by decide +kernel, by decide +kernel, by decide +kernel⟩
theorem lkL_68 : LKV RL 68 yX6_paper cX6_paper 3 (some .int) 2 := ⟨tw692, tw693, tw694, tw6, tw695, by decide +kernel, by decide +kernel, by decide +kernel⟩
theorem lkL_72 : LKV RL 72 yX6_need cX6_need 3 (some .int) 1 := ⟨tw696, tw697, tw698, tw6, tw699, by decide +kernel, by decide +kernel, by decide +kernel⟩
theorem lkL_76 : LKV RL 76 yX6_pages cX6_pages 3 (some .int) 2 := ⟨tw700, tw701, tw702, tw6, tw703, by decide +kernel, by decide +kernel, by decide +kernel⟩
theorem lkX6_143 : LKV RX6 143 yX6_findPages cX6_findPages 6 none 1 := ⟨tw704, tw706, ts23, tw6, tw707, by decide +kernel, by decide +kernel, by decide +kernel⟩
theorem lkX6_136 : LKV RX6 136 yX6_systemsOf cX6_systemsOf 9 (some .int) 3 := ⟨tw708, tw710, ts24, tw6, tw711, by decide +kernel, by decide +kernel, by decide +kernel⟩
theorem lkX6_129 : LKV RX6 129 yX6_widthOf cX6_widthOf 4 (some .int) 3 := ⟨tw712, tw714, ts25, tw6, tw715, by decide +kernel, by decide +kernel, by decide +kernel⟩
theorem lkX6_140 : LKV RX6 140 yX6_isBad cX6_isBad 3 (some .boolean) 2 := ⟨tw716, tw718, ts26, tw6, tw719, by decide +kernel, by decide +kernel, by decide +kernel⟩
theorem lkX6_133 : LKV RX6 133 yX6_freeAt cX6_freeAt 5 (some .int) 2 := ⟨tw720, tw722, ts27, tw6, tw723, by decide +kernel, by decide +kernel, by decide +kernel⟩
theorem lkL_80 : LKV RL 80 yX6_page cX6_page 4 (some .int) 2 := ⟨tw724, tw725, tw726, tw6, tw727, by decide +kernel, by decide +kernel, by decide +kernel⟩
theorem lkX6_147 : LKV RX6 147 yX6_pageAt cX6_pageAt 5 (some .int) 2 := ⟨tw728, tw730, ts28, tw6, tw731, by decide +kernel, by decide +kernel, by decide +kernel⟩
theorem lkL_84 : LKV RL 84 yX6_free cX6_free 4 (some .int) 2 := ⟨tw732, tw733, tw734, tw6, tw735, by decide +kernel, by decide +kernel, by decide +kernel⟩
theorem lkL_88 : LKV RL 88 yX6_systems cX6_systems 4 (some .int) 2 := ⟨tw736, tw737, tw738, tw6, tw739, by decide +kernel, by decide +kernel, by decide +kernel⟩
theorem lkL_92 : LKV RL 92 yX6_lay cX6_lay 6 (some .int) 1 := ⟨tw740, tw741, tw742, tw6, tw743, by decide +kernel, by decide +kernel, by decide +kernel⟩
theorem lkL_96 : LKV RL 96 yX6_stale cX6_stale 5 (some .int) 1 := ⟨tw744, tw745, tw746, tw6, tw747, by decide +kernel, by decide +kernel, by decide +kernel⟩
theorem lkL_100 : LKV RL 100 yX6_tell cX6_tell 2 (some .int) 1 := ⟨tw748, tw749, tw750, tw6, tw751, by decide +kernel, by decide +kernel, by decide +kernel⟩
theorem lkL_104 : LKV RL 104 yX6_check cX6_check 7 (some .int) 1 := ⟨tw752, tw753, tw754, tw6, tw755, by decide +kernel, by decide +kernel, by decide +kernel⟩
theorem lkL_108 : LKV RL 108 yX6_count cX6_count 4 (some .int) 1 := ⟨tw756, tw757, tw758, tw6, tw759, by decide +kernel, by decide +kernel, by decide +kernel⟩
theorem lkL_112 : LKV RL 112 yX6_found cX6_found 2 (some .int) 1 := ⟨tw760, tw761, tw762, tw6, tw763, by decide +kernel, by decide +kernel, by decide +kernel⟩
section CA
variable {κ : KT} {cc : ByteArray} {own : String} {mL : Nat} {rm : Room} {k1 k2 : Nat} {a : Nat → Nat} {n : Nat} {σ : ST} {L : List (Nat × Value)} {pc : Nat} {rest : List Value}
abbrev MP (y : MethodName) (cc : ByteArray) (mL : Nat) (ret : FieldType) (rm : Room) (a : Nat → Nat) (n : Nat) (σ : ST) (av : List Value) (post : Int → Prop) : Prop := MI y cc mL ret rm a n σ av (fun r σ1 => σ1 = σ ∧ post r)
abbrev MB (y : MethodName) (cc : ByteArray) (mL : Nat) (rm : Room) (a : Nat → Nat) (n : Nat) (σ : ST) (av : List Value) (P : Prop) : Prop := MI y cc mL .boolean rm a n σ av (fun r σ1 => σ1 = σ ∧ ((r = 1 ∧ P) ∨ (r = 0 ∧ ¬ P)))
theorem r_callI0 {ret : FieldType} {post : Int → ST → Prop} {y : MethodName} {cc1 : ByteArray} {mL1 idx : Nat} {rm1 : Room} (c0 : Nat) (C : CX κ cc own mL rm) (hd : decode cc pc = .ok (.invokevirtual idx, 3)) (LK : LKV own idx y cc1 mL1 (some ret) 0) (hM : MI y cc1 mL1 ret rm1 a n σ (.ref (a c0) :: []) post) (hroom : fitRoom rm1 rm mL1) (hk : k1 ≤ rm.cells ∧ k2 ≤ rm.slots) (rc : RC a n σ c0 y.cls) (hW : (rest.map fun v => v.category).sum ≤ 8) (kk : ∀ (r : Int) (σ1 : ST), post r σ1 → J κ k1 k2 a n σ1 L (pc + 3) (iv r :: rest)) : J κ k1 k2 a n σ L pc (.ref (a c0) :: rest) := by
  obtain ⟨hc, ci, fs, q, h1, h2, h3⟩ := rc
  exact r_callI (As := []) c0 C hd LK hM hroom hk hc h1 h2 h3 rfl hW kk
theorem r_callV0 {post : ST → Prop} {y : MethodName} {cc1 : ByteArray} {mL1 idx : Nat} {rm1 : Room} (c0 : Nat) (C : CX κ cc own mL rm) (hd : decode cc pc = .ok (.invokevirtual idx, 3)) (LK : LKV own idx y cc1 mL1 none 0) (hM : MV y cc1 mL1 rm1 a n σ (.ref (a c0) :: []) post) (hroom : fitRoom rm1 rm mL1) (hk : k1 ≤ rm.cells ∧ k2 ≤ rm.slots) (rc : RC a n σ c0 y.cls) (hW : (rest.map fun v => v.category).sum ≤ 8) (kk : ∀ (σ1 : ST), post σ1 → J κ k1 k2 a n σ1 L (pc + 3) rest) : J κ k1 k2 a n σ L pc (.ref (a c0) :: rest) := by
  obtain ⟨hc, ci, fs, q, h1, h2, h3⟩ := rc
  exact r_callV (As := []) c0 C hd LK hM hroom hk hc h1 h2 h3 rfl hW kk
theorem r_callP0 {ret : FieldType} {post : Int → Prop} {y : MethodName} {cc1 : ByteArray} {mL1 idx : Nat} {rm1 : Room} (c0 : Nat) (C : CX κ cc own mL rm) (hd : decode cc pc = .ok (.invokevirtual idx, 3)) (LK : LKV own idx y cc1 mL1 (some ret) 0) (hM : MP y cc1 mL1 ret rm1 a n σ (.ref (a c0) :: []) post) (hroom : fitRoom rm1 rm mL1) (hk : k1 ≤ rm.cells ∧ k2 ≤ rm.slots) (rc : RC a n σ c0 y.cls) (hW : (rest.map fun v => v.category).sum ≤ 8) (kk : ∀ (r : Int), post r → J κ k1 k2 a n σ L (pc + 3) (iv r :: rest)) : J κ k1 k2 a n σ L pc (.ref (a c0) :: rest) := by
  obtain ⟨hc, ci, fs, q, h1, h2, h3⟩ := rc
  exact r_callI (As := []) c0 C hd LK hM hroom hk hc h1 h2 h3 rfl hW (fun r σ1 h => by rw [h.1]; exact kk r h.2)
theorem r_callB0 {P : Prop} {y : MethodName} {cc1 : ByteArray} {mL1 idx : Nat} {rm1 : Room} (c0 : Nat) (C : CX κ cc own mL rm) (hd : decode cc pc = .ok (.invokevirtual idx, 3)) (LK : LKV own idx y cc1 mL1 (some .boolean) 0) (hM : MB y cc1 mL1 rm1 a n σ (.ref (a c0) :: []) P) (hroom : fitRoom rm1 rm mL1) (hk : k1 ≤ rm.cells ∧ k2 ≤ rm.slots) (rc : RC a n σ c0 y.cls) (hW : (rest.map fun v => v.category).sum ≤ 8) (kt : P → J κ k1 k2 a n σ L (pc + 3) (iv 1 :: rest)) (kf : ¬ P → J κ k1 k2 a n σ L (pc + 3) (iv 0 :: rest)) : J κ k1 k2 a n σ L pc (.ref (a c0) :: rest) := by
  obtain ⟨hc, ci, fs, q, h1, h2, h3⟩ := rc
  refine r_callI (As := []) c0 C hd LK hM hroom hk hc h1 h2 h3 rfl hW (fun r σ1 h => ?_)
  obtain ⟨h4, h5⟩ := h
  rw [h4]
  rcases h5 with ⟨h6, h7⟩ | ⟨h6, h7⟩
  · rw [h6]; exact kt h7
  · rw [h6]; exact kf h7
theorem r_callI1 {ret : FieldType} {post : Int → ST → Prop} {y : MethodName} {cc1 : ByteArray} {mL1 idx : Nat} {rm1 : Room} {v1 : Value} (c0 : Nat) (C : CX κ cc own mL rm) (hd : decode cc pc = .ok (.invokevirtual idx, 3)) (LK : LKV own idx y cc1 mL1 (some ret) 1) (hM : MI y cc1 mL1 ret rm1 a n σ (.ref (a c0) :: [v1]) post) (hroom : fitRoom rm1 rm mL1) (hk : k1 ≤ rm.cells ∧ k2 ≤ rm.slots) (rc : RC a n σ c0 y.cls) (hW : (rest.map fun v => v.category).sum ≤ 8) (kk : ∀ (r : Int) (σ1 : ST), post r σ1 → J κ k1 k2 a n σ1 L (pc + 3) (iv r :: rest)) : J κ k1 k2 a n σ L pc (v1 :: .ref (a c0) :: rest) := by
  obtain ⟨hc, ci, fs, q, h1, h2, h3⟩ := rc
  exact r_callI (As := [v1]) c0 C hd LK hM hroom hk hc h1 h2 h3 rfl hW kk
theorem r_callV1 {post : ST → Prop} {y : MethodName} {cc1 : ByteArray} {mL1 idx : Nat} {rm1 : Room} {v1 : Value} (c0 : Nat) (C : CX κ cc own mL rm) (hd : decode cc pc = .ok (.invokevirtual idx, 3)) (LK : LKV own idx y cc1 mL1 none 1) (hM : MV y cc1 mL1 rm1 a n σ (.ref (a c0) :: [v1]) post) (hroom : fitRoom rm1 rm mL1) (hk : k1 ≤ rm.cells ∧ k2 ≤ rm.slots) (rc : RC a n σ c0 y.cls) (hW : (rest.map fun v => v.category).sum ≤ 8) (kk : ∀ (σ1 : ST), post σ1 → J κ k1 k2 a n σ1 L (pc + 3) rest) : J κ k1 k2 a n σ L pc (v1 :: .ref (a c0) :: rest) := by
  obtain ⟨hc, ci, fs, q, h1, h2, h3⟩ := rc
  exact r_callV (As := [v1]) c0 C hd LK hM hroom hk hc h1 h2 h3 rfl hW kk
theorem r_callP1 {ret : FieldType} {post : Int → Prop} {y : MethodName} {cc1 : ByteArray} {mL1 idx : Nat} {rm1 : Room} {v1 : Value} (c0 : Nat) (C : CX κ cc own mL rm) (hd : decode cc pc = .ok (.invokevirtual idx, 3)) (LK : LKV own idx y cc1 mL1 (some ret) 1) (hM : MP y cc1 mL1 ret rm1 a n σ (.ref (a c0) :: [v1]) post) (hroom : fitRoom rm1 rm mL1) (hk : k1 ≤ rm.cells ∧ k2 ≤ rm.slots) (rc : RC a n σ c0 y.cls) (hW : (rest.map fun v => v.category).sum ≤ 8) (kk : ∀ (r : Int), post r → J κ k1 k2 a n σ L (pc + 3) (iv r :: rest)) : J κ k1 k2 a n σ L pc (v1 :: .ref (a c0) :: rest) := by
  obtain ⟨hc, ci, fs, q, h1, h2, h3⟩ := rc
  exact r_callI (As := [v1]) c0 C hd LK hM hroom hk hc h1 h2 h3 rfl hW (fun r σ1 h => by rw [h.1]; exact kk r h.2)
theorem r_callB1 {P : Prop} {y : MethodName} {cc1 : ByteArray} {mL1 idx : Nat} {rm1 : Room} {v1 : Value} (c0 : Nat) (C : CX κ cc own mL rm) (hd : decode cc pc = .ok (.invokevirtual idx, 3)) (LK : LKV own idx y cc1 mL1 (some .boolean) 1) (hM : MB y cc1 mL1 rm1 a n σ (.ref (a c0) :: [v1]) P) (hroom : fitRoom rm1 rm mL1) (hk : k1 ≤ rm.cells ∧ k2 ≤ rm.slots) (rc : RC a n σ c0 y.cls) (hW : (rest.map fun v => v.category).sum ≤ 8) (kt : P → J κ k1 k2 a n σ L (pc + 3) (iv 1 :: rest)) (kf : ¬ P → J κ k1 k2 a n σ L (pc + 3) (iv 0 :: rest)) : J κ k1 k2 a n σ L pc (v1 :: .ref (a c0) :: rest) := by
  obtain ⟨hc, ci, fs, q, h1, h2, h3⟩ := rc
  refine r_callI (As := [v1]) c0 C hd LK hM hroom hk hc h1 h2 h3 rfl hW (fun r σ1 h => ?_)
  obtain ⟨h4, h5⟩ := h
  rw [h4]
  rcases h5 with ⟨h6, h7⟩ | ⟨h6, h7⟩
  · rw [h6]; exact kt h7
  · rw [h6]; exact kf h7
theorem r_callO1 {ret : FieldType} {post : Option Nat → Prop} {y : MethodName} {cc1 : ByteArray} {mL1 idx : Nat} {rm1 : Room} {v1 : Value} (c0 : Nat) (C : CX κ cc own mL rm) (hd : decode cc pc = .ok (.invokevirtual idx, 3)) (LK : LKV own idx y cc1 mL1 (some ret) 1) (hM : MO y cc1 mL1 ret rm1 a n σ (.ref (a c0) :: [v1]) post) (hroom : fitRoom rm1 rm mL1) (hk : k1 ≤ rm.cells ∧ k2 ≤ rm.slots) (rc : RC a n σ c0 y.cls) (hW : (rest.map fun v => v.category).sum ≤ 8) (kk : ∀ (r : Option Nat), post r → J κ k1 k2 a n σ L (pc + 3) (va_rf r :: rest)) : J κ k1 k2 a n σ L pc (v1 :: .ref (a c0) :: rest) := by
  obtain ⟨hc, ci, fs, q, h1, h2, h3⟩ := rc
  exact r_callO (As := [v1]) c0 C hd LK hM hroom hk hc h1 h2 h3 rfl hW kk
theorem r_callI2 {ret : FieldType} {post : Int → ST → Prop} {y : MethodName} {cc1 : ByteArray} {mL1 idx : Nat} {rm1 : Room} {v1 v2 : Value} (c0 : Nat) (C : CX κ cc own mL rm) (hd : decode cc pc = .ok (.invokevirtual idx, 3)) (LK : LKV own idx y cc1 mL1 (some ret) 2) (hM : MI y cc1 mL1 ret rm1 a n σ (.ref (a c0) :: [v1, v2]) post) (hroom : fitRoom rm1 rm mL1) (hk : k1 ≤ rm.cells ∧ k2 ≤ rm.slots) (rc : RC a n σ c0 y.cls) (hW : (rest.map fun v => v.category).sum ≤ 8) (kk : ∀ (r : Int) (σ1 : ST), post r σ1 → J κ k1 k2 a n σ1 L (pc + 3) (iv r :: rest)) : J κ k1 k2 a n σ L pc (v2 :: v1 :: .ref (a c0) :: rest) := by
  obtain ⟨hc, ci, fs, q, h1, h2, h3⟩ := rc
  exact r_callI (As := [v1, v2]) c0 C hd LK hM hroom hk hc h1 h2 h3 rfl hW kk
theorem r_callV2 {post : ST → Prop} {y : MethodName} {cc1 : ByteArray} {mL1 idx : Nat} {rm1 : Room} {v1 v2 : Value} (c0 : Nat) (C : CX κ cc own mL rm) (hd : decode cc pc = .ok (.invokevirtual idx, 3)) (LK : LKV own idx y cc1 mL1 none 2) (hM : MV y cc1 mL1 rm1 a n σ (.ref (a c0) :: [v1, v2]) post) (hroom : fitRoom rm1 rm mL1) (hk : k1 ≤ rm.cells ∧ k2 ≤ rm.slots) (rc : RC a n σ c0 y.cls) (hW : (rest.map fun v => v.category).sum ≤ 8) (kk : ∀ (σ1 : ST), post σ1 → J κ k1 k2 a n σ1 L (pc + 3) rest) : J κ k1 k2 a n σ L pc (v2 :: v1 :: .ref (a c0) :: rest) := by
  obtain ⟨hc, ci, fs, q, h1, h2, h3⟩ := rc
  exact r_callV (As := [v1, v2]) c0 C hd LK hM hroom hk hc h1 h2 h3 rfl hW kk
theorem r_callP2 {ret : FieldType} {post : Int → Prop} {y : MethodName} {cc1 : ByteArray} {mL1 idx : Nat} {rm1 : Room} {v1 v2 : Value} (c0 : Nat) (C : CX κ cc own mL rm) (hd : decode cc pc = .ok (.invokevirtual idx, 3)) (LK : LKV own idx y cc1 mL1 (some ret) 2) (hM : MP y cc1 mL1 ret rm1 a n σ (.ref (a c0) :: [v1, v2]) post) (hroom : fitRoom rm1 rm mL1) (hk : k1 ≤ rm.cells ∧ k2 ≤ rm.slots) (rc : RC a n σ c0 y.cls) (hW : (rest.map fun v => v.category).sum ≤ 8) (kk : ∀ (r : Int), post r → J κ k1 k2 a n σ L (pc + 3) (iv r :: rest)) : J κ k1 k2 a n σ L pc (v2 :: v1 :: .ref (a c0) :: rest) := by
  obtain ⟨hc, ci, fs, q, h1, h2, h3⟩ := rc
  exact r_callI (As := [v1, v2]) c0 C hd LK hM hroom hk hc h1 h2 h3 rfl hW (fun r σ1 h => by rw [h.1]; exact kk r h.2)
theorem r_callB2 {P : Prop} {y : MethodName} {cc1 : ByteArray} {mL1 idx : Nat} {rm1 : Room} {v1 v2 : Value} (c0 : Nat) (C : CX κ cc own mL rm) (hd : decode cc pc = .ok (.invokevirtual idx, 3)) (LK : LKV own idx y cc1 mL1 (some .boolean) 2) (hM : MB y cc1 mL1 rm1 a n σ (.ref (a c0) :: [v1, v2]) P) (hroom : fitRoom rm1 rm mL1) (hk : k1 ≤ rm.cells ∧ k2 ≤ rm.slots) (rc : RC a n σ c0 y.cls) (hW : (rest.map fun v => v.category).sum ≤ 8) (kt : P → J κ k1 k2 a n σ L (pc + 3) (iv 1 :: rest)) (kf : ¬ P → J κ k1 k2 a n σ L (pc + 3) (iv 0 :: rest)) : J κ k1 k2 a n σ L pc (v2 :: v1 :: .ref (a c0) :: rest) := by
  obtain ⟨hc, ci, fs, q, h1, h2, h3⟩ := rc
  refine r_callI (As := [v1, v2]) c0 C hd LK hM hroom hk hc h1 h2 h3 rfl hW (fun r σ1 h => ?_)
  obtain ⟨h4, h5⟩ := h
  rw [h4]
  rcases h5 with ⟨h6, h7⟩ | ⟨h6, h7⟩
  · rw [h6]; exact kt h7
  · rw [h6]; exact kf h7
theorem r_callSP2 {ret : FieldType} {post : Int → Prop} {y : MethodName} {cc1 : ByteArray} {mL1 idx : Nat} {rm1 : Room} {v1 v2 : Value} (C : CX κ cc own mL rm) (hd : decode cc pc = .ok (.invokestatic idx, 3)) (LK : LKS own idx y cc1 mL1 (some ret) 2) (hM : MP y cc1 mL1 ret rm1 a n σ [v1, v2] post) (hroom : fitRoom rm1 rm mL1) (hk : k1 ≤ rm.cells ∧ k2 ≤ rm.slots) (hW : (rest.map fun v => v.category).sum ≤ 8) (kk : ∀ (r : Int), post r → J κ k1 k2 a n σ L (pc + 3) (iv r :: rest)) : J κ k1 k2 a n σ L pc (v2 :: v1 :: rest) := by
  exact r_callS (As := [v1, v2]) C hd LK hM hroom hk rfl hW (fun r σ1 h => by rw [h.1]; exact kk r h.2)
theorem r_callSB2 {P : Prop} {y : MethodName} {cc1 : ByteArray} {mL1 idx : Nat} {rm1 : Room} {v1 v2 : Value} (C : CX κ cc own mL rm) (hd : decode cc pc = .ok (.invokestatic idx, 3)) (LK : LKS own idx y cc1 mL1 (some .boolean) 2) (hM : MB y cc1 mL1 rm1 a n σ [v1, v2] P) (hroom : fitRoom rm1 rm mL1) (hk : k1 ≤ rm.cells ∧ k2 ≤ rm.slots) (hW : (rest.map fun v => v.category).sum ≤ 8) (kt : P → J κ k1 k2 a n σ L (pc + 3) (iv 1 :: rest)) (kf : ¬ P → J κ k1 k2 a n σ L (pc + 3) (iv 0 :: rest)) : J κ k1 k2 a n σ L pc (v2 :: v1 :: rest) := by
  refine r_callS (As := [v1, v2]) C hd LK hM hroom hk rfl hW (fun r σ1 h => ?_)
  obtain ⟨h4, h5⟩ := h
  rw [h4]
  rcases h5 with ⟨h6, h7⟩ | ⟨h6, h7⟩
  · rw [h6]; exact kt h7
  · rw [h6]; exact kf h7
theorem r_callI3 {ret : FieldType} {post : Int → ST → Prop} {y : MethodName} {cc1 : ByteArray} {mL1 idx : Nat} {rm1 : Room} {v1 v2 v3 : Value} (c0 : Nat) (C : CX κ cc own mL rm) (hd : decode cc pc = .ok (.invokevirtual idx, 3)) (LK : LKV own idx y cc1 mL1 (some ret) 3) (hM : MI y cc1 mL1 ret rm1 a n σ (.ref (a c0) :: [v1, v2, v3]) post) (hroom : fitRoom rm1 rm mL1) (hk : k1 ≤ rm.cells ∧ k2 ≤ rm.slots) (rc : RC a n σ c0 y.cls) (hW : (rest.map fun v => v.category).sum ≤ 8) (kk : ∀ (r : Int) (σ1 : ST), post r σ1 → J κ k1 k2 a n σ1 L (pc + 3) (iv r :: rest)) : J κ k1 k2 a n σ L pc (v3 :: v2 :: v1 :: .ref (a c0) :: rest) := by
  obtain ⟨hc, ci, fs, q, h1, h2, h3⟩ := rc
  exact r_callI (As := [v1, v2, v3]) c0 C hd LK hM hroom hk hc h1 h2 h3 rfl hW kk
theorem r_callV3 {post : ST → Prop} {y : MethodName} {cc1 : ByteArray} {mL1 idx : Nat} {rm1 : Room} {v1 v2 v3 : Value} (c0 : Nat) (C : CX κ cc own mL rm) (hd : decode cc pc = .ok (.invokevirtual idx, 3)) (LK : LKV own idx y cc1 mL1 none 3) (hM : MV y cc1 mL1 rm1 a n σ (.ref (a c0) :: [v1, v2, v3]) post) (hroom : fitRoom rm1 rm mL1) (hk : k1 ≤ rm.cells ∧ k2 ≤ rm.slots) (rc : RC a n σ c0 y.cls) (hW : (rest.map fun v => v.category).sum ≤ 8) (kk : ∀ (σ1 : ST), post σ1 → J κ k1 k2 a n σ1 L (pc + 3) rest) : J κ k1 k2 a n σ L pc (v3 :: v2 :: v1 :: .ref (a c0) :: rest) := by
  obtain ⟨hc, ci, fs, q, h1, h2, h3⟩ := rc
  exact r_callV (As := [v1, v2, v3]) c0 C hd LK hM hroom hk hc h1 h2 h3 rfl hW kk
theorem r_callP3 {ret : FieldType} {post : Int → Prop} {y : MethodName} {cc1 : ByteArray} {mL1 idx : Nat} {rm1 : Room} {v1 v2 v3 : Value} (c0 : Nat) (C : CX κ cc own mL rm) (hd : decode cc pc = .ok (.invokevirtual idx, 3)) (LK : LKV own idx y cc1 mL1 (some ret) 3) (hM : MP y cc1 mL1 ret rm1 a n σ (.ref (a c0) :: [v1, v2, v3]) post) (hroom : fitRoom rm1 rm mL1) (hk : k1 ≤ rm.cells ∧ k2 ≤ rm.slots) (rc : RC a n σ c0 y.cls) (hW : (rest.map fun v => v.category).sum ≤ 8) (kk : ∀ (r : Int), post r → J κ k1 k2 a n σ L (pc + 3) (iv r :: rest)) : J κ k1 k2 a n σ L pc (v3 :: v2 :: v1 :: .ref (a c0) :: rest) := by
  obtain ⟨hc, ci, fs, q, h1, h2, h3⟩ := rc
  exact r_callI (As := [v1, v2, v3]) c0 C hd LK hM hroom hk hc h1 h2 h3 rfl hW (fun r σ1 h => by rw [h.1]; exact kk r h.2)
theorem r_callB3 {P : Prop} {y : MethodName} {cc1 : ByteArray} {mL1 idx : Nat} {rm1 : Room} {v1 v2 v3 : Value} (c0 : Nat) (C : CX κ cc own mL rm) (hd : decode cc pc = .ok (.invokevirtual idx, 3)) (LK : LKV own idx y cc1 mL1 (some .boolean) 3) (hM : MB y cc1 mL1 rm1 a n σ (.ref (a c0) :: [v1, v2, v3]) P) (hroom : fitRoom rm1 rm mL1) (hk : k1 ≤ rm.cells ∧ k2 ≤ rm.slots) (rc : RC a n σ c0 y.cls) (hW : (rest.map fun v => v.category).sum ≤ 8) (kt : P → J κ k1 k2 a n σ L (pc + 3) (iv 1 :: rest)) (kf : ¬ P → J κ k1 k2 a n σ L (pc + 3) (iv 0 :: rest)) : J κ k1 k2 a n σ L pc (v3 :: v2 :: v1 :: .ref (a c0) :: rest) := by
  obtain ⟨hc, ci, fs, q, h1, h2, h3⟩ := rc
  refine r_callI (As := [v1, v2, v3]) c0 C hd LK hM hroom hk hc h1 h2 h3 rfl hW (fun r σ1 h => ?_)
  obtain ⟨h4, h5⟩ := h
  rw [h4]
  rcases h5 with ⟨h6, h7⟩ | ⟨h6, h7⟩
  · rw [h6]; exact kt h7
  · rw [h6]; exact kf h7
theorem r_callSP3 {ret : FieldType} {post : Int → Prop} {y : MethodName} {cc1 : ByteArray} {mL1 idx : Nat} {rm1 : Room} {v1 v2 v3 : Value} (C : CX κ cc own mL rm) (hd : decode cc pc = .ok (.invokestatic idx, 3)) (LK : LKS own idx y cc1 mL1 (some ret) 3) (hM : MP y cc1 mL1 ret rm1 a n σ [v1, v2, v3] post) (hroom : fitRoom rm1 rm mL1) (hk : k1 ≤ rm.cells ∧ k2 ≤ rm.slots) (hW : (rest.map fun v => v.category).sum ≤ 8) (kk : ∀ (r : Int), post r → J κ k1 k2 a n σ L (pc + 3) (iv r :: rest)) : J κ k1 k2 a n σ L pc (v3 :: v2 :: v1 :: rest) := by
  exact r_callS (As := [v1, v2, v3]) C hd LK hM hroom hk rfl hW (fun r σ1 h => by rw [h.1]; exact kk r h.2)
theorem r_callSB3 {P : Prop} {y : MethodName} {cc1 : ByteArray} {mL1 idx : Nat} {rm1 : Room} {v1 v2 v3 : Value} (C : CX κ cc own mL rm) (hd : decode cc pc = .ok (.invokestatic idx, 3)) (LK : LKS own idx y cc1 mL1 (some .boolean) 3) (hM : MB y cc1 mL1 rm1 a n σ [v1, v2, v3] P) (hroom : fitRoom rm1 rm mL1) (hk : k1 ≤ rm.cells ∧ k2 ≤ rm.slots) (hW : (rest.map fun v => v.category).sum ≤ 8) (kt : P → J κ k1 k2 a n σ L (pc + 3) (iv 1 :: rest)) (kf : ¬ P → J κ k1 k2 a n σ L (pc + 3) (iv 0 :: rest)) : J κ k1 k2 a n σ L pc (v3 :: v2 :: v1 :: rest) := by
  refine r_callS (As := [v1, v2, v3]) C hd LK hM hroom hk rfl hW (fun r σ1 h => ?_)
  obtain ⟨h4, h5⟩ := h
  rw [h4]
  rcases h5 with ⟨h6, h7⟩ | ⟨h6, h7⟩
  · rw [h6]; exact kt h7
  · rw [h6]; exact kf h7
theorem r_callI4 {ret : FieldType} {post : Int → ST → Prop} {y : MethodName} {cc1 : ByteArray} {mL1 idx : Nat} {rm1 : Room} {v1 v2 v3 v4 : Value} (c0 : Nat) (C : CX κ cc own mL rm) (hd : decode cc pc = .ok (.invokevirtual idx, 3)) (LK : LKV own idx y cc1 mL1 (some ret) 4) (hM : MI y cc1 mL1 ret rm1 a n σ (.ref (a c0) :: [v1, v2, v3, v4]) post) (hroom : fitRoom rm1 rm mL1) (hk : k1 ≤ rm.cells ∧ k2 ≤ rm.slots) (rc : RC a n σ c0 y.cls) (hW : (rest.map fun v => v.category).sum ≤ 8) (kk : ∀ (r : Int) (σ1 : ST), post r σ1 → J κ k1 k2 a n σ1 L (pc + 3) (iv r :: rest)) : J κ k1 k2 a n σ L pc (v4 :: v3 :: v2 :: v1 :: .ref (a c0) :: rest) := by
  obtain ⟨hc, ci, fs, q, h1, h2, h3⟩ := rc
  exact r_callI (As := [v1, v2, v3, v4]) c0 C hd LK hM hroom hk hc h1 h2 h3 rfl hW kk
theorem r_callV4 {post : ST → Prop} {y : MethodName} {cc1 : ByteArray} {mL1 idx : Nat} {rm1 : Room} {v1 v2 v3 v4 : Value} (c0 : Nat) (C : CX κ cc own mL rm) (hd : decode cc pc = .ok (.invokevirtual idx, 3)) (LK : LKV own idx y cc1 mL1 none 4) (hM : MV y cc1 mL1 rm1 a n σ (.ref (a c0) :: [v1, v2, v3, v4]) post) (hroom : fitRoom rm1 rm mL1) (hk : k1 ≤ rm.cells ∧ k2 ≤ rm.slots) (rc : RC a n σ c0 y.cls) (hW : (rest.map fun v => v.category).sum ≤ 8) (kk : ∀ (σ1 : ST), post σ1 → J κ k1 k2 a n σ1 L (pc + 3) rest) : J κ k1 k2 a n σ L pc (v4 :: v3 :: v2 :: v1 :: .ref (a c0) :: rest) := by
  obtain ⟨hc, ci, fs, q, h1, h2, h3⟩ := rc
  exact r_callV (As := [v1, v2, v3, v4]) c0 C hd LK hM hroom hk hc h1 h2 h3 rfl hW kk
theorem r_callP4 {ret : FieldType} {post : Int → Prop} {y : MethodName} {cc1 : ByteArray} {mL1 idx : Nat} {rm1 : Room} {v1 v2 v3 v4 : Value} (c0 : Nat) (C : CX κ cc own mL rm) (hd : decode cc pc = .ok (.invokevirtual idx, 3)) (LK : LKV own idx y cc1 mL1 (some ret) 4) (hM : MP y cc1 mL1 ret rm1 a n σ (.ref (a c0) :: [v1, v2, v3, v4]) post) (hroom : fitRoom rm1 rm mL1) (hk : k1 ≤ rm.cells ∧ k2 ≤ rm.slots) (rc : RC a n σ c0 y.cls) (hW : (rest.map fun v => v.category).sum ≤ 8) (kk : ∀ (r : Int), post r → J κ k1 k2 a n σ L (pc + 3) (iv r :: rest)) : J κ k1 k2 a n σ L pc (v4 :: v3 :: v2 :: v1 :: .ref (a c0) :: rest) := by
  obtain ⟨hc, ci, fs, q, h1, h2, h3⟩ := rc
  exact r_callI (As := [v1, v2, v3, v4]) c0 C hd LK hM hroom hk hc h1 h2 h3 rfl hW (fun r σ1 h => by rw [h.1]; exact kk r h.2)
theorem r_callB4 {P : Prop} {y : MethodName} {cc1 : ByteArray} {mL1 idx : Nat} {rm1 : Room} {v1 v2 v3 v4 : Value} (c0 : Nat) (C : CX κ cc own mL rm) (hd : decode cc pc = .ok (.invokevirtual idx, 3)) (LK : LKV own idx y cc1 mL1 (some .boolean) 4) (hM : MB y cc1 mL1 rm1 a n σ (.ref (a c0) :: [v1, v2, v3, v4]) P) (hroom : fitRoom rm1 rm mL1) (hk : k1 ≤ rm.cells ∧ k2 ≤ rm.slots) (rc : RC a n σ c0 y.cls) (hW : (rest.map fun v => v.category).sum ≤ 8) (kt : P → J κ k1 k2 a n σ L (pc + 3) (iv 1 :: rest)) (kf : ¬ P → J κ k1 k2 a n σ L (pc + 3) (iv 0 :: rest)) : J κ k1 k2 a n σ L pc (v4 :: v3 :: v2 :: v1 :: .ref (a c0) :: rest) := by
  obtain ⟨hc, ci, fs, q, h1, h2, h3⟩ := rc
  refine r_callI (As := [v1, v2, v3, v4]) c0 C hd LK hM hroom hk hc h1 h2 h3 rfl hW (fun r σ1 h => ?_)
  obtain ⟨h4, h5⟩ := h
  rw [h4]
  rcases h5 with ⟨h6, h7⟩ | ⟨h6, h7⟩
  · rw [h6]; exact kt h7
  · rw [h6]; exact kf h7
end CA
end
section
/-! what the rows of a part are: notes and marks by place -/
def Pm (σ : ST) (v : Int) (i : Int) : Int := σ 24 (40 * v + σ 28 i)
def Mm (σ : ST) (i : Int) : Int := σ 20 (σ 28 i)
def Sm (σ : ST) (i : Int) : Int := σ 19 (σ 28 i)
def Lm (σ : ST) (o i : Int) : Int := σ 25 (40 * o + σ 28 i)
abbrev bgP (P M : Int → Int) (i : Int) : Prop := P i = 0 ∧ (i = 0 ∨ P (i - 1) ≠ 0 ∨ M i ≠ 0 ∨ M (i - 1) % 2 = 1)
/-- how many bars that aren't begun anew follow from a place on -/
def lenF (P M : Int → Int) : Nat → Int → Int
  | 0, _ => 0
  | m + 1, j => if P j = 0 ∧ ¬ bgP P M j then 1 + lenF P M m (j + 1) else 0
theorem lenF_bd (P M : Int → Int) : ∀ (m : Nat) (j : Int), 0 ≤ lenF P M m j ∧ lenF P M m j ≤ m
  | 0, j => by simp [lenF]
  | m + 1, j => by
    have := lenF_bd P M m (j + 1)
    unfold lenF
    split <;> omega
/-- with a bound: from a place on up to many -/
def lenT (P M : Int → Int) (many j : Int) : Int := lenF P M (many - j).toNat j
theorem lenT_t {P M : Int → Int} {many j : Int} (h : j < many) (h1 : P j = 0) (h2 : ¬ bgP P M j) : lenT P M many j = 1 + lenT P M many (j + 1) := by
  unfold lenT
  rw [show (many - j).toNat = (many - (j + 1)).toNat + 1 by omega]
  show (if P j = 0 ∧ ¬ bgP P M j then _ else _) = _
  rw [if_pos ⟨h1, h2⟩]
theorem lenT_f {P M : Int → Int} {many j : Int} (h : ¬ (j < many ∧ P j = 0 ∧ ¬ bgP P M j)) : lenT P M many j = 0 := by
  unfold lenT
  by_cases h1 : j < many
  · rw [show (many - j).toNat = (many - (j + 1)).toNat + 1 by omega]
    show (if P j = 0 ∧ ¬ bgP P M j then _ else _) = _
    rw [if_neg (fun q => h ⟨h1, q⟩)]
  · rw [show (many - j).toNat = 0 by omega]
    rfl
theorem lenT_bd {P M : Int → Int} {many j : Int} (h : j ≤ many) : 0 ≤ lenT P M many j ∧ lenT P M many j ≤ many - j := by
  have := lenF_bd P M (many - j).toNat j
  unfold lenT
  omega
/-- the value at the i-th beginning, -1 if there is none -/
def restF (P M val : Int → Int) : Nat → Int → Int → Int
  | 0, _, _ => -1
  | m + 1, k, left => if bgP P M k then (if left = 0 then val k else restF P M val m (k + 1) (left - 1)) else restF P M val m (k + 1) left
def restT (P M val : Int → Int) (many k left : Int) : Int := restF P M val (many - k).toNat k left
theorem restT_e {P M val : Int → Int} {many k left : Int} (h : many ≤ k) : restT P M val many k left = -1 := by
  unfold restT
  rw [show (many - k).toNat = 0 by omega]
  rfl
theorem restT_s {P M val : Int → Int} {many k left : Int} (h : k < many) : restT P M val many k left = if bgP P M k then (if left = 0 then val k else restT P M val many (k + 1) (left - 1)) else restT P M val many (k + 1) left := by
  unfold restT
  rw [show (many - k).toNat = (many - (k + 1)).toNat + 1 by omega]
  rfl
/-- the bars that aren't cut -/
def cntN (mk : Int → Int) : Nat → Int
  | 0 => 0
  | b + 1 => cntN mk b + (if mk b ≤ 3 then 1 else 0)
def RowOK (mk : Int → Int) (nb : Int) (row : Int → Int) (many : Int) : Prop := many = cntN mk nb.toNat ∧ ∀ b : Nat, (b : Int) < nb → mk b ≤ 3 → row (cntN mk b) = b
theorem cntN_bd (mk : Int → Int) : ∀ b : Nat, 0 ≤ cntN mk b ∧ cntN mk b ≤ b
  | 0 => by simp [cntN]
  | b + 1 => by
    have := cntN_bd mk b
    unfold cntN
    split <;> omega
theorem cntN_s (mk : Int → Int) {b : Int} (h : 0 ≤ b) : cntN mk (b + 1).toNat = cntN mk b.toNat + (if mk b ≤ 3 then 1 else 0) := by
  rw [show (b + 1).toNat = b.toNat + 1 by omega]
  show cntN mk b.toNat + (if mk (b.toNat : Int) ≤ 3 then 1 else 0) = _
  rw [show ((b.toNat : Nat) : Int) = b by omega]
theorem cntN_at (mk : Int → Int) : ∀ (nb : Nat) (i : Int), 0 ≤ i → i < cntN mk nb → ∃ b : Nat, b < nb ∧ mk b ≤ 3 ∧ cntN mk b = i
  | 0, i, h0, h => by simp [cntN] at h; omega
  | nb + 1, i, h0, h => by
    by_cases h1 : i < cntN mk nb
    · obtain ⟨b, h2, h3, h4⟩ := cntN_at mk nb i h0 h1
      exact ⟨b, by omega, h3, h4⟩
    · unfold cntN at h
      by_cases h2 : mk nb ≤ 3
      · exact ⟨nb, by omega, h2, by rw [if_pos h2] at h; omega⟩
      · rw [if_neg h2] at h; omega
theorem RowOK.at {mk : Int → Int} {nb : Int} {row : Int → Int} {many : Int} (h : RowOK mk nb row many) {i : Int} (h0 : 0 ≤ i) (h1 : i < many) : ∃ b : Nat, (b : Int) < nb ∧ mk b ≤ 3 ∧ cntN mk b = i ∧ row i = b := by
  rw [h.1] at h1
  obtain ⟨b, h2, h3, h4⟩ := cntN_at mk nb.toNat i h0 h1
  refine ⟨b, by omega, h3, h4, ?_⟩
  rw [← h4]
  exact h.2 b (by omega) h3
theorem RowOK.bd {mk : Int → Int} {nb : Int} {row : Int → Int} {many : Int} (h : RowOK mk nb row many) (hn : 0 ≤ nb) : 0 ≤ many ∧ many ≤ nb := by
  have := cntN_bd mk nb.toNat
  rw [h.1]
  omega
def RowIn (σ : ST) : Prop := 0 ≤ σ 18 18 ∧ σ 18 18 ≤ 40 ∧ ∀ i, 0 ≤ i → i < σ 18 18 → 0 ≤ σ 28 i ∧ σ 28 i < 40
/-- cues -/
def allZ (P : Int → Int) (i : Int) : Nat → Bool
  | 0 => true
  | k + 1 => allZ P i k && decide (P (i - (k + 1)) = 0)
theorem allZ_iff (P : Int → Int) (i : Int) : ∀ d : Nat, allZ P i d = true ↔ ∀ k : Int, 1 ≤ k → k ≤ d → P (i - k) = 0
  | 0 => by
    simp only [allZ, true_iff]
    intro k h1 h2
    omega
  | d + 1 => by
    unfold allZ
    rw [Bool.and_eq_true, allZ_iff P i d, decide_eq_true_eq]
    constructor
    · intro h k h1 h2
      by_cases h3 : k ≤ d
      · exact h.1 k h1 h3
      · have h4 : k = (d : Int) + 1 := by omega
        rw [h4]; exact h.2
    · intro h
      exact ⟨fun k h1 h2 => h k h1 (by omega), h _ (by omega) (by omega)⟩
def hearF (LD : Int → Int → Int) (stg : Int → Int) (v due i o : Int) : Int := if o = v ∨ stg o = 0 then 0 else LD o (i - 1) + (if 1 < due then LD o (i - 2) else 0)
def scanF (hd : Int → Int) : Nat → Int × Int
  | 0 => (-1, 0)
  | k + 1 => if (scanF hd k).2 < hd k then (k, hd k) else scanF hd k
theorem scanF_s (hd : Int → Int) {k : Int} (h : 0 ≤ k) : scanF hd (k + 1).toNat = if (scanF hd k.toNat).2 < hd k then (k, hd k) else scanF hd k.toNat := by
  rw [show (k + 1).toNat = k.toNat + 1 by omega]
  show (if (scanF hd k.toNat).2 < hd (k.toNat : Int) then ((k.toNat : Int), hd (k.toNat : Int)) else _) = _
  rw [show ((k.toNat : Nat) : Int) = k by omega]
theorem scanF_bd (hd : Int → Int) : ∀ k : Nat, -1 ≤ (scanF hd k).1 ∧ (scanF hd k).1 < k ∧ 0 ≤ (scanF hd k).2
  | 0 => by simp [scanF]
  | k + 1 => by
    have := scanF_bd hd k
    unfold scanF
    split
    · refine ⟨?_, ?_, ?_⟩ <;> simp only <;> omega
    · omega
def cueF (P : Int → Int) (LD : Int → Int → Int) (stg : Int → Int) (nv v due i : Int) : Int := if P i ≠ 0 ∧ due ≤ i ∧ allZ P i due.toNat = true then (scanF (hearF LD stg v due i) nv.toNat).1 else -1
theorem cueF_bd {P : Int → Int} {LD : Int → Int → Int} {stg : Int → Int} {nv v due i : Int} (h : 0 ≤ nv) : -1 ≤ cueF P LD stg nv v due i ∧ (cueF P LD stg nv v due i < nv ∨ cueF P LD stg nv v due i = -1) := by
  unfold cueF
  split
  · have := scanF_bd (hearF LD stg v due i) nv.toNat
    omega
  · omega
/-- widths and systems -/
def widF (P M cue : Int → Int) (i : Int) (first : Prop) [Decidable first] : Int := if P i = 0 then (if first ∨ bgP P M i then 4 else 0) else 2 + P i + (if 0 ≤ cue i then 3 else 0)
def sysF (w : Int → Int) (wf : Int → Int) (wide : Int) (fr : Int) : Nat → Int × Int
  | 0 => (1, 0)
  | k + 1 => if wide < (sysF w wf wide fr k).2 + (if k = 0 then wf (fr + k) else w (fr + k)) then ((sysF w wf wide fr k).1 + 1, wf (fr + k)) else ((sysF w wf wide fr k).1, (sysF w wf wide fr k).2 + (if k = 0 then wf (fr + k) else w (fr + k)))
theorem sysF_s (w : Int → Int) (wf : Int → Int) (wide : Int) (fr : Int) {i : Int} (h : fr ≤ i) : sysF w wf wide fr (i + 1 - fr).toNat = if wide < (sysF w wf wide fr (i - fr).toNat).2 + (if i = fr then wf i else w i) then ((sysF w wf wide fr (i - fr).toNat).1 + 1, wf i) else ((sysF w wf wide fr (i - fr).toNat).1, (sysF w wf wide fr (i - fr).toNat).2 + (if i = fr then wf i else w i)) := by
  have e1 : (i + 1 - fr).toNat = (i - fr).toNat + 1 := by omega
  have e2 : fr + ((i - fr).toNat : Int) = i := by omega
  rw [e1]
  conv => lhs; unfold sysF
  rw [e2]
  by_cases h3 : i = fr
  · rw [if_pos (show (i - fr).toNat = 0 by omega), if_pos h3]
  · rw [if_neg (show ¬ (i - fr).toNat = 0 by omega), if_neg h3]
theorem sysF_bd (w : Int → Int) (wf : Int → Int) (wide : Int) (fr : Int) (hw : ∀ i, 0 ≤ w i ∧ w i ≤ 21) (hf : ∀ i, 0 ≤ wf i ∧ wf i ≤ 21) : ∀ k : Nat, 1 ≤ (sysF w wf wide fr k).1 ∧ (sysF w wf wide fr k).1 ≤ k + 1 ∧ 0 ≤ (sysF w wf wide fr k).2 ∧ (sysF w wf wide fr k).2 ≤ 21 * k
  | 0 => by simp [sysF]
  | k + 1 => by
    have h1 := sysF_bd w wf wide fr hw hf k
    have h2 := hw (fr + k)
    have h3 := hf (fr + k)
    have h5 : 0 ≤ (if k = 0 then wf (fr + k) else w (fr + k)) ∧ (if k = 0 then wf (fr + k) else w (fr + k)) ≤ 21 := by split <;> assumption
    unfold sysF
    generalize (if k = 0 then wf (fr + k) else w (fr + k)) = own at h5 ⊢
    generalize sysF w wf wide fr k = q at h1 ⊢
    split
    · exact ⟨by show 1 ≤ q.1 + 1; omega, by show q.1 + 1 ≤ _; omega, h3.1, by show wf _ ≤ _; omega⟩
    · exact ⟨by show 1 ≤ q.1; omega, by show q.1 ≤ _; omega, by show 0 ≤ q.2 + own; omega, by show q.2 + own ≤ _; omega⟩
/-- seconds that are free -/
def dnF (P S : Int → Int) : Nat → Int
  | 0 => 0
  | i + 1 => if P i = 0 then dnF P S i + S i else 0
theorem dnF_s (P S : Int → Int) {i : Int} (h : 0 ≤ i) : dnF P S (i + 1).toNat = if P i = 0 then dnF P S i.toNat + S i else 0 := by
  rw [show (i + 1).toNat = i.toNat + 1 by omega]
  show (if P (i.toNat : Int) = 0 then dnF P S i.toNat + S (i.toNat : Int) else 0) = _
  rw [show ((i.toNat : Nat) : Int) = i by omega]
theorem dnF_bd (P S : Int → Int) (hS : ∀ i, 0 ≤ S i ∧ S i ≤ 60) : ∀ k : Nat, 0 ≤ dnF P S k ∧ dnF P S k ≤ 60 * k
  | 0 => by simp [dnF]
  | k + 1 => by
    have h1 := dnF_bd P S hS k
    have h2 := hS k
    unfold dnF
    split <;> omega
def upF (P S : Int → Int) : Nat → Int → Int
  | 0, _ => 0
  | m + 1, j => if P j = 0 then S j + upF P S m (j + 1) else 0
def upT (P S : Int → Int) (many j : Int) : Int := upF P S (many - j).toNat j
theorem upT_e {P S : Int → Int} {many j : Int} (h : many ≤ j) : upT P S many j = 0 := by
  unfold upT
  rw [show (many - j).toNat = 0 by omega]
  rfl
theorem upT_s {P S : Int → Int} {many j : Int} (h : j < many) : upT P S many j = if P j = 0 then S j + upT P S many (j + 1) else 0 := by
  unfold upT
  rw [show (many - j).toNat = (many - (j + 1)).toNat + 1 by omega]
  rfl
theorem upF_bd (P S : Int → Int) (hS : ∀ i, 0 ≤ S i ∧ S i ≤ 60) : ∀ (k : Nat) (j : Int), 0 ≤ upF P S k j ∧ upF P S k j ≤ 60 * k
  | 0, j => by simp [upF]
  | k + 1, j => by
    have h1 := upF_bd P S hS k (j + 1)
    have h2 := hS j
    unfold upF
    split <;> omega
def freF (P S : Int → Int) (many i : Int) : Int := dnF P S i.toNat + upT P S many i
theorem freF_bd {P S : Int → Int} (hS : ∀ i, 0 ≤ S i ∧ S i ≤ 60) {many i : Int} (h0 : 0 ≤ i) (h1 : i ≤ many) (h2 : many ≤ 40) : 0 ≤ freF P S many i ∧ freF P S many i ≤ 2400 := by
  have a1 := dnF_bd P S hS i.toNat
  have a2 := upF_bd P S hS (many - i).toNat i
  unfold freF upT
  omega
/-- the best way from a place on -/
def bestF (cb cg : Int → Int) : Nat → Int × Int × Int
  | 0 => (0, 0, 0)
  | k + 1 => if 0 < (bestF cb cg k).1 ∧ ((bestF cb cg k).2.1 < cb (k + 1) ∨ cb (k + 1) = (bestF cb cg k).2.1 ∧ (bestF cb cg k).2.2 ≤ cg (k + 1)) then bestF cb cg k else (k + 1, cb (k + 1), cg (k + 1))
theorem bestF_s (cb cg : Int → Int) {m : Int} (h : 1 ≤ m) : bestF cb cg m.toNat = if 0 < (bestF cb cg (m - 1).toNat).1 ∧ ((bestF cb cg (m - 1).toNat).2.1 < cb m ∨ cb m = (bestF cb cg (m - 1).toNat).2.1 ∧ (bestF cb cg (m - 1).toNat).2.2 ≤ cg m) then bestF cb cg (m - 1).toNat else (m, cb m, cg m) := by
  have e1 : m.toNat = (m - 1).toNat + 1 := by omega
  have e2 : (((m - 1).toNat : Nat) : Int) + 1 = m := by omega
  rw [e1]
  conv => lhs; unfold bestF
  rw [e2]
theorem bestF_in (cb cg : Int → Int) : ∀ k : Nat, 0 < k → 1 ≤ (bestF cb cg k).1 ∧ (bestF cb cg k).1 ≤ k ∧ (bestF cb cg k).2.1 = cb (bestF cb cg k).1 ∧ (bestF cb cg k).2.2 = cg (bestF cb cg k).1
  | 0, h => absurd h (by omega)
  | k + 1, _ => by
    unfold bestF
    split
    · rename_i h1
      have hk : 0 < k := by
        rcases Nat.eq_zero_or_pos k with h2 | h2
        · subst h2; simp [bestF] at h1
        · exact h2
      have := bestF_in cb cg k hk
      omega
    · exact ⟨by simp only; omega, by simp only; omega, rfl, rfl⟩
/-- how far a first page can go: the most bars -/
def farF (sy : Int → Int) (lines : Int) : Nat → Int → Int
  | 0, k => k
  | m + 1, k => if sy (k + 1) ≤ lines then farF sy lines m (k + 1) else k
def farT (sy : Int → Int) (lines : Int) (rest k : Int) : Int := farF sy lines (rest - k).toNat k
theorem farT_t {sy : Int → Int} {lines rest k : Int} (h : k < rest) (h1 : sy (k + 1) ≤ lines) : farT sy lines rest k = farT sy lines rest (k + 1) := by
  unfold farT
  rw [show (rest - k).toNat = (rest - (k + 1)).toNat + 1 by omega]
  show (if sy (k + 1) ≤ lines then _ else _) = _
  rw [if_pos h1]
theorem farT_f {sy : Int → Int} {lines rest k : Int} (h : ¬ (k < rest ∧ sy (k + 1) ≤ lines)) : farT sy lines rest k = k := by
  unfold farT
  by_cases h1 : k < rest
  · rw [show (rest - k).toNat = (rest - (k + 1)).toNat + 1 by omega]
    show (if sy (k + 1) ≤ lines then _ else _) = _
    rw [if_neg (fun q => h ⟨h1, q⟩)]
  · rw [show (rest - k).toNat = 0 by omega]
    rfl
theorem farF_bd (sy : Int → Int) (lines : Int) : ∀ (m : Nat) (k : Int), k ≤ farF sy lines m k ∧ farF sy lines m k ≤ k + m
  | 0, k => by simp [farF]
  | m + 1, k => by
    have := farF_bd sy lines m (k + 1)
    unfold farF
    split <;> omega
theorem farT_bd {sy : Int → Int} {lines rest k : Int} (h : k ≤ rest) : k ≤ farT sy lines rest k ∧ farT sy lines rest k ≤ rest := by
  have := farF_bd sy lines (rest - k).toNat k
  unfold farT
  omega
/-- the table of pages: bad turns, pages, size of the first page, from each place on -/
def DPOK (sy : Int → Int → Int) (lines : Int) (badT : Int → Int) (many : Int) (B G Z : Int → Int) : Prop :=
  B many = 0 ∧ G many = 0 ∧ ∀ i, 0 ≤ i → i < many → (Z i, B i, G i) = bestF (fun m => B (i + m) + badT (i + m)) (fun m => G (i + m) + 1) (farT (sy i) lines (many - i) 0).toNat
/-- the place where a page begins -/
def walkF (Z : Int → Int) (many : Int) : Nat → Int
  | 0 => 0
  | k + 1 => if walkF Z many k < many then walkF Z many k + Z (walkF Z many k) else walkF Z many k
theorem walkF_s (Z : Int → Int) (many : Int) {k : Int} (h : 0 ≤ k) : walkF Z many (k + 1).toNat = if walkF Z many k.toNat < many then walkF Z many k.toNat + Z (walkF Z many k.toNat) else walkF Z many k.toNat := by
  rw [show (k + 1).toNat = k.toNat + 1 by omega]
  rfl
theorem walkF_stay (Z : Int → Int) (many : Int) (k : Nat) (h : many ≤ walkF Z many k) : ∀ j : Nat, walkF Z many (k + j) = walkF Z many k
  | 0 => rfl
  | j + 1 => by
    have := walkF_stay Z many k h j
    show (if walkF Z many (k + j) < many then _ else walkF Z many (k + j)) = _
    rw [if_neg (by omega), this]
/-- a finding is counted -/
def fd (σ : ST) (c : Nat) (k : Int) : ST := up2 σ c k (σ c k + 1)
/-- what the reference's state is -/
def MS (σ : ST) : Prop := (0 ≤ σ 18 0 ∧ σ 18 0 ≤ 40) ∧ (0 ≤ σ 18 1 ∧ σ 18 1 ≤ 6) ∧ (0 ≤ σ 18 2 ∧ σ 18 2 ≤ 40) ∧ (-7 ≤ σ 18 3 ∧ σ 18 3 ≤ 7) ∧ (1 ≤ σ 18 4 ∧ σ 18 4 ≤ 20) ∧ (21 ≤ σ 18 5 ∧ σ 18 5 ≤ 60) ∧ (1 ≤ σ 18 6 ∧ σ 18 6 ≤ 8) ∧ (0 ≤ σ 18 7 ∧ σ 18 7 ≤ 60) ∧ (∀ j, 0 ≤ σ 19 j ∧ σ 19 j ≤ 60) ∧ (∀ j, 0 ≤ σ 20 j ∧ σ 20 j ≤ 7) ∧ (∀ j, 0 ≤ σ 21 j ∧ σ 21 j ≤ 2) ∧ (∀ j, -11 ≤ σ 22 j ∧ σ 22 j ≤ 11) ∧ (∀ j, 0 ≤ σ 23 j ∧ σ 23 j ≤ 1) ∧ (∀ j, 0 ≤ σ 24 j ∧ σ 24 j ≤ 16) ∧ (∀ j, 0 ≤ σ 25 j ∧ σ 25 j ≤ 9) ∧ (∀ j, 0 ≤ σ 27 j ∧ σ 27 j < 1000000) ∧ (∀ j, 0 ≤ σ 32 j ∧ σ 32 j ≤ 40) ∧ (∀ j, -1 ≤ σ 33 j ∧ σ 33 j < 40)
theorem MS.F {σ : ST} (h : MS σ) (j : Int) : 0 ≤ σ 27 j ∧ σ 27 j < 1000000 := h.2.2.2.2.2.2.2.2.2.2.2.2.2.2.2.1 j
/-- only the reference's working rows have changed -/
def FrM (σ τ : ST) : Prop := (∀ c, c ≠ 18 → c ≠ 28 → c ≠ 29 → c ≠ 30 → c ≠ 31 → c ≠ 37 → τ c = σ c) ∧ ∀ k, k ≠ 18 → τ 18 k = σ 18 k
theorem FrM.rf {σ : ST} : FrM σ σ := ⟨fun _ _ _ _ _ _ _ => rfl, fun _ _ => rfl⟩
theorem FrM.up {σ τ : ST} (h : FrM σ τ) {c : Nat} (hc : c = 28 ∨ c = 29 ∨ c = 30 ∨ c = 31 ∨ c = 37) (k z : Int) : FrM σ (up2 τ c k z) :=
  ⟨fun d h1 h2 h3 h4 h5 h6 => by rw [up2_ne (by omega)]; exact h.1 d h1 h2 h3 h4 h5 h6, fun j hj => by rw [up2_ne (by omega)]; exact h.2 j hj⟩
theorem FrM.up18 {σ τ : ST} (h : FrM σ τ) (z : Int) : FrM σ (up2 τ 18 18 z) :=
  ⟨fun d h1 h2 h3 h4 h5 h6 => by rw [up2_ne h1]; exact h.1 d h1 h2 h3 h4 h5 h6, fun j hj => by rw [up2_at hj]; exact h.2 j hj⟩
theorem FrM.tr {σ τ ρ : ST} (h : FrM σ τ) (h2 : FrM τ ρ) : FrM σ ρ :=
  ⟨fun d a1 a2 a3 a4 a5 a6 => (h2.1 d a1 a2 a3 a4 a5 a6).trans (h.1 d a1 a2 a3 a4 a5 a6), fun j hj => (h2.2 j hj).trans (h.2 j hj)⟩
theorem FrM.ms {σ τ : ST} (h : FrM σ τ) (hM : MS σ) : MS τ := by
  unfold MS
  rw [h.2 0 (by decide), h.2 1 (by decide), h.2 2 (by decide), h.2 3 (by decide), h.2 4 (by decide), h.2 5 (by decide), h.2 6 (by decide), h.2 7 (by decide), h.1 19 (by decide) (by decide) (by decide) (by decide) (by decide) (by decide), h.1 20 (by decide) (by decide) (by decide) (by decide) (by decide) (by decide), h.1 21 (by decide) (by decide) (by decide) (by decide) (by decide) (by decide), h.1 22 (by decide) (by decide) (by decide) (by decide) (by decide) (by decide), h.1 23 (by decide) (by decide) (by decide) (by decide) (by decide) (by decide), h.1 24 (by decide) (by decide) (by decide) (by decide) (by decide) (by decide), h.1 25 (by decide) (by decide) (by decide) (by decide) (by decide) (by decide), h.1 27 (by decide) (by decide) (by decide) (by decide) (by decide) (by decide), h.1 32 (by decide) (by decide) (by decide) (by decide) (by decide) (by decide), h.1 33 (by decide) (by decide) (by decide) (by decide) (by decide) (by decide)]
  exact hM
theorem RowIn.of {σ : ST} {mk : Int → Int} {nb : Int} (h : RowOK mk nb (σ 28) (σ 18 18)) (h0 : 0 ≤ nb) (h1 : nb ≤ 40) : RowIn σ := by
  have := h.bd h0
  refine ⟨by omega, by omega, fun i h2 h3 => ?_⟩
  obtain ⟨b, h4, -, -, h5⟩ := h.at h2 h3
  omega
theorem iand_1 {x : Int} (h : inR x) : iand x 1 = x % 2 := by
  unfold iand
  have e := pk_and (iZ x) (m := iZ 1) 1 (by decide +kernel)
  rw [e, iZ_nI]
  have h1 : ((iZ x).toBitVec.toNat : Int) % 2 = x % 2 := by
    have h2 : (iZ x).toInt = x := iZ_toInt h
    have h3 : (iZ x).toInt = (iZ x).toBitVec.toInt := rfl
    rw [h3, BitVec.toInt_eq_toNat_cond] at h2
    split at h2 <;> omega
  rw [iZ_toInt ⟨by omega, by omega⟩]
  omega
theorem iand_3 {x : Int} (h : 0 ≤ x ∧ x ≤ 7) : iand x 3 = x % 4 := by
  rcases (show x = 0 ∨ x = 1 ∨ x = 2 ∨ x = 3 ∨ x = 4 ∨ x = 5 ∨ x = 6 ∨ x = 7 by omega) with rfl | rfl | rfl | rfl | rfl | rfl | rfl | rfl <;> decide +kernel
theorem iand_4 {x : Int} (h : 0 ≤ x ∧ x ≤ 7) : iand x 4 = if 3 < x then 4 else 0 := by
  rcases (show x = 0 ∨ x = 1 ∨ x = 2 ∨ x = 3 ∨ x = 4 ∨ x = 5 ∨ x = 6 ∨ x = 7 by omega) with rfl | rfl | rfl | rfl | rfl | rfl | rfl | rfl <;> decide +kernel
theorem ixor_4 {x : Int} (h : 0 ≤ x ∧ x ≤ 7) : ixor x 4 = if 3 < x then x - 4 else x + 4 := by
  rcases (show x = 0 ∨ x = 1 ∨ x = 2 ∨ x = 3 ∨ x = 4 ∨ x = 5 ∨ x = 6 ∨ x = 7 by omega) with rfl | rfl | rfl | rfl | rfl | rfl | rfl | rfl <;> decide +kernel
end
section
set_option maxHeartbeats 4000000 in
set_option maxRecDepth 100000 in
theorem m_X6_in {a : Nat → Nat} {n : Nat} {σ : ST} {x y z : Int} (hx : inR x) (hy : inR y) (hz : inR z) : MB yX6_in cX6_in 3 (RM 0 0) a n σ [iv x, iv y, iv z] (y ≤ x ∧ x ≤ z) := by
  refine MI.ofB (own := RX6) (by decide +kernel) rfl (Nat.le_of_ble_eq_true rfl) ?_
  intro κ C hret
  show J κ 0 0 a n σ [(0, iv x), (1, iv y), (2, iv z)] 0 []
  refine r_iload_n C dX6_in_0 0 rfl ?_
  refine r_iload_n C dX6_in_1 1 rfl ?_
  refine r_icmp_lt (tgt := 14) C dX6_in_2 (by decide) (by omega) (by omega) (fun h1 => ?_) (fun h1 => ?_)
  · skip
    refine r_iconst C dX6_in_14 ?_
    exact hret _ _ _ _ dX6_in_15 (Or.inl rfl) (⟨rfl, Or.inr ⟨rfl, by omega⟩⟩)
  · skip
    refine r_iload_n C dX6_in_5 0 rfl ?_
    refine r_iload_n C dX6_in_6 2 rfl ?_
    refine r_icmp_gt (tgt := 14) C dX6_in_7 (by decide) (by omega) (by omega) (fun h2 => ?_) (fun h2 => ?_)
    · skip
      refine r_iconst C dX6_in_14 ?_
      exact hret _ _ _ _ dX6_in_15 (Or.inl rfl) (⟨rfl, Or.inr ⟨rfl, by omega⟩⟩)
    · skip
      refine r_iconst C dX6_in_10 ?_
      refine r_goto (tgt := 15) C dX6_in_11 (by decide) ?_
      exact hret _ _ _ _ dX6_in_15 (Or.inr rfl) (⟨rfl, Or.inl ⟨rfl, by omega⟩⟩)

set_option maxHeartbeats 4000000 in
set_option maxRecDepth 100000 in
theorem m_X6_finds {a : Nat → Nat} {n : Nat} {σ : ST} {k : Int} (hk : 1 ≤ k ∧ k ≤ 5) (hc : 0 ≤ σ 27 k ∧ σ 27 k < 1000000) : MI yX6_finds cX6_finds 2 .int (RM 0 0) a n σ [.ref (a 18), iv k] (fun r σ1 => r = -1000000 - k ∧ σ1 = fd σ 27 k) := by
  refine MI.of (own := RX6) (by decide +kernel) rfl (Nat.le_of_ble_eq_true rfl) ?_
  intro κ C hret
  show J κ 0 0 a n σ [(0, .ref (a 18)), (1, iv k)] 0 []
  refine r_aload_n C dX6_finds_0 0 rfl ?_
  refine gX6_47 C dX6_finds_1 ?_
  refine r_iload_n C dX6_finds_4 1 rfl ?_
  refine r_dup2 C dX6_finds_5 rfl rfl ?_
  refine r_iald 6 C dX6_finds_6 (by omega) (fun _ => rfl) (by omega) (by omega) (by decide) (fun g2 => ?_)
  refine r_iconst C dX6_finds_7 ?_
  refine r_iadd C dX6_finds_8 ?_
  refine r_iast 6 C dX6_finds_9 (by omega) (fun _ _ => rfl) (by omega) (by omega) (by decide) (by omega) ?_
  refine r_ldc (-1000000) C dX6_finds_10 tw615 (by decide +kernel) ?_
  refine r_iload_n C dX6_finds_12 1 rfl ?_
  refine r_isub C dX6_finds_13 ?_
  exact hret _ _ _ _ dX6_finds_14 (⟨rfl, rfl⟩)

set_option maxHeartbeats 4000000 in
set_option maxRecDepth 100000 in
theorem m_X6_isBar {a : Nat → Nat} {n : Nat} {σ : ST} {b : Int} (hb : inR b) (hn : 0 ≤ σ 18 0 ∧ σ 18 0 ≤ 40) : MB yX6_isBar cX6_isBar 2 (RM 1 22) a n σ [.ref (a 18), iv b] (0 ≤ b ∧ b < σ 18 0) := by
  refine MI.ofB (own := RX6) (by decide +kernel) rfl (Nat.le_of_ble_eq_true rfl) ?_
  intro κ C hret
  show J κ 0 0 a n σ [(0, .ref (a 18)), (1, iv b)] 0 []
  refine r_iload_n C dX6_isBar_0 1 rfl ?_
  refine r_iconst C dX6_isBar_1 ?_
  refine r_aload_n C dX6_isBar_2 0 rfl ?_
  refine gX6_82 C dX6_isBar_3 (fun g1 => ?_)
  refine r_iconst C dX6_isBar_6 ?_
  refine r_isub C dX6_isBar_7 ?_
  refine r_callSB3 C dX6_isBar_8 lkX6_85 (m_X6_in (by omega) (by omega) (by omega)) ⟨rfl, rfl, Nat.le_of_ble_eq_true rfl, Nat.le_of_ble_eq_true rfl⟩ ⟨Nat.zero_le _, Nat.zero_le _⟩ (Nat.le_of_ble_eq_true rfl) (fun h2 => ?_) (fun h2 => ?_)
  · skip
    exact hret _ _ _ _ dX6_isBar_11 (Or.inr rfl) (⟨rfl, Or.inl ⟨rfl, by omega⟩⟩)
  · skip
    exact hret _ _ _ _ dX6_isBar_11 (Or.inl rfl) (⟨rfl, Or.inr ⟨rfl, by omega⟩⟩)

set_option maxHeartbeats 4000000 in
set_option maxRecDepth 100000 in
theorem m_X6_isVoice {a : Nat → Nat} {n : Nat} {σ : ST} {v : Int} (hb : inR v) (hn : 0 ≤ σ 18 1 ∧ σ 18 1 ≤ 6) : MB yX6_isVoice cX6_isVoice 2 (RM 1 22) a n σ [.ref (a 18), iv v] (0 ≤ v ∧ v < σ 18 1) := by
  refine MI.ofB (own := RX6) (by decide +kernel) rfl (Nat.le_of_ble_eq_true rfl) ?_
  intro κ C hret
  show J κ 0 0 a n σ [(0, .ref (a 18)), (1, iv v)] 0 []
  refine r_iload_n C dX6_isVoice_0 1 rfl ?_
  refine r_iconst C dX6_isVoice_1 ?_
  refine r_aload_n C dX6_isVoice_2 0 rfl ?_
  refine gX6_89 C dX6_isVoice_3 (fun g1 => ?_)
  refine r_iconst C dX6_isVoice_6 ?_
  refine r_isub C dX6_isVoice_7 ?_
  refine r_callSB3 C dX6_isVoice_8 lkX6_85 (m_X6_in (by omega) (by omega) (by omega)) ⟨rfl, rfl, Nat.le_of_ble_eq_true rfl, Nat.le_of_ble_eq_true rfl⟩ ⟨Nat.zero_le _, Nat.zero_le _⟩ (Nat.le_of_ble_eq_true rfl) (fun h2 => ?_) (fun h2 => ?_)
  · skip
    exact hret _ _ _ _ dX6_isVoice_11 (Or.inr rfl) (⟨rfl, Or.inl ⟨rfl, by omega⟩⟩)
  · skip
    exact hret _ _ _ _ dX6_isVoice_11 (Or.inl rfl) (⟨rfl, Or.inr ⟨rfl, by omega⟩⟩)

set_option maxHeartbeats 4000000 in
set_option maxRecDepth 100000 in
theorem m_X6_isCut {a : Nat → Nat} {n : Nat} {σ : ST} {b : Int} (hb : 0 ≤ b ∧ b < 40) : MB yX6_isCut cX6_isCut 2 (RM 0 0) a n σ [.ref (a 18), iv b] (3 < σ 20 b) := by
  refine MI.ofB (own := RX6) (by decide +kernel) rfl (Nat.le_of_ble_eq_true rfl) ?_
  intro κ C hret
  show J κ 0 0 a n σ [(0, .ref (a 18)), (1, iv b)] 0 []
  refine r_aload_n C dX6_isCut_0 0 rfl ?_
  refine gX6_26 C dX6_isCut_1 ?_
  refine r_iload_n C dX6_isCut_4 1 rfl ?_
  refine r_iald 40 C dX6_isCut_5 (by omega) (fun _ => rfl) (by omega) (by omega) (by decide) (fun g2 => ?_)
  refine r_iconst C dX6_isCut_6 ?_
  refine r_icmp_le (tgt := 14) C dX6_isCut_7 (by decide) (by omega) (by omega) (fun h3 => ?_) (fun h3 => ?_)
  · skip
    refine r_iconst C dX6_isCut_14 ?_
    exact hret _ _ _ _ dX6_isCut_15 (Or.inl rfl) (⟨rfl, Or.inr ⟨rfl, by omega⟩⟩)
  · skip
    refine r_iconst C dX6_isCut_10 ?_
    refine r_goto (tgt := 15) C dX6_isCut_11 (by decide) ?_
    exact hret _ _ _ _ dX6_isCut_15 (Or.inr rfl) (⟨rfl, Or.inl ⟨rfl, by omega⟩⟩)

set_option maxHeartbeats 4000000 in
set_option maxRecDepth 100000 in
theorem m_X6_rests {a : Nat → Nat} {n : Nat} {σ : ST} {v i : Int} (hI : RowIn σ) (hv : 0 ≤ v ∧ v < 6) (hi : 0 ≤ i ∧ i < σ 18 18) : MB yX6_rests cX6_rests 3 (RM 0 0) a n σ [.ref (a 18), iv v, iv i] (Pm σ v i = 0) := by
  refine MI.ofB (own := RX6) (by decide +kernel) rfl (Nat.le_of_ble_eq_true rfl) ?_
  intro κ C hret
  show J κ 0 0 a n σ [(0, .ref (a 18)), (1, iv v), (2, iv i)] 0 []
  have hri := hI.2.2 i hi.1 hi.2
  have hrm := hI.2.1
  refine r_aload_n C dX6_rests_0 0 rfl ?_
  refine gX6_38 C dX6_rests_1 ?_
  refine r_bipush C dX6_rests_4 (by decide) ?_
  refine r_iload_n C dX6_rests_6 1 rfl ?_
  refine r_imul C dX6_rests_7 ?_
  refine r_aload_n C dX6_rests_8 0 rfl ?_
  refine gX6_50 C dX6_rests_9 ?_
  refine r_iload_n C dX6_rests_12 2 rfl ?_
  refine r_iald 40 C dX6_rests_13 (by omega) (fun _ => rfl) (by omega) (by omega) (by decide) (fun g3 => ?_)
  refine r_iadd C dX6_rests_14 ?_
  refine r_iald 240 C dX6_rests_15 (by omega) (fun _ => rfl) (by omega) (by omega) (by decide) (fun g4 => ?_)
  refine r_if_ne (tgt := 23) C dX6_rests_16 (by decide) (by omega) (fun h5 => ?_) (fun h5 => ?_)
  · skip
    refine r_iconst C dX6_rests_23 ?_
    exact hret _ _ _ _ dX6_rests_24 (Or.inl rfl) (⟨rfl, Or.inr ⟨rfl, by unfold Pm; omega⟩⟩)
  · skip
    refine r_iconst C dX6_rests_19 ?_
    refine r_goto (tgt := 24) C dX6_rests_20 (by decide) ?_
    exact hret _ _ _ _ dX6_rests_24 (Or.inr rfl) (⟨rfl, Or.inl ⟨rfl, by unfold Pm; omega⟩⟩)

set_option maxHeartbeats 4000000 in
set_option maxRecDepth 100000 in
theorem m_X6_begins {a : Nat → Nat} {n : Nat} {σ : ST} {v i : Int} (hI : RowIn σ) (hv : 0 ≤ v ∧ v < 6) (hi : 0 ≤ i ∧ i < σ 18 18) : MB yX6_begins cX6_begins 3 (RM 1 22) a n σ [.ref (a 18), iv v, iv i] (bgP (Pm σ v) (Mm σ) i) := by
  refine MI.ofB (own := RX6) (by decide +kernel) rfl (Nat.le_of_ble_eq_true rfl) ?_
  intro κ C hret
  show J κ 0 0 a n σ [(0, .ref (a 18)), (1, iv v), (2, iv i)] 0 []
  have hri := hI.2.2 i hi.1 hi.2
  have hrm := hI.2.1
  refine r_aload_n C dX6_begins_0 0 rfl ?_
  refine r_iload_n C dX6_begins_1 1 rfl ?_
  refine r_iload_n C dX6_begins_2 2 rfl ?_
  refine r_callB2 18 C dX6_begins_3 lkX6_109 (m_X6_rests hI (by omega) (by omega)) ⟨rfl, rfl, Nat.le_of_ble_eq_true rfl, Nat.le_of_ble_eq_true rfl⟩ ⟨Nat.zero_le _, Nat.zero_le _⟩ rc18 (Nat.le_of_ble_eq_true rfl) (fun h1 => ?_) (fun h1 => ?_)
  · skip
    refine r_if_ne (tgt := 11) C dX6_begins_6 (by decide) (by decide) (fun _ => ?_) (fun q => absurd q (by decide))
    refine r_iload_n C dX6_begins_11 2 rfl ?_
    refine r_if_eq (tgt := 59) C dX6_begins_12 (by decide) (by omega) (fun h3 => ?_) (fun h3 => ?_)
    · skip
      refine r_iconst C dX6_begins_59 ?_
      refine r_goto (tgt := 64) C dX6_begins_60 (by decide) ?_
      exact hret _ _ _ _ dX6_begins_64 (Or.inr rfl) (⟨rfl, Or.inl ⟨rfl, by unfold bgP Mm; omega⟩⟩)
    · skip
      have hrj := hI.2.2 (i - 1) (by omega) (by omega)
      refine r_aload_n C dX6_begins_15 0 rfl ?_
      refine r_iload_n C dX6_begins_16 1 rfl ?_
      refine r_iload_n C dX6_begins_17 2 rfl ?_
      refine r_iconst C dX6_begins_18 ?_
      refine r_isub C dX6_begins_19 ?_
      refine r_callB2 18 C dX6_begins_20 lkX6_109 (m_X6_rests hI (by omega) (by omega)) ⟨rfl, rfl, Nat.le_of_ble_eq_true rfl, Nat.le_of_ble_eq_true rfl⟩ ⟨Nat.zero_le _, Nat.zero_le _⟩ rc18 (Nat.le_of_ble_eq_true rfl) (fun h4 => ?_) (fun h4 => ?_)
      · skip
        refine r_if_eq (tgt := 59) C dX6_begins_23 (by decide) (by decide) (fun q => absurd q (by decide)) (fun _ => ?_)
        refine r_aload_n C dX6_begins_26 0 rfl ?_
        refine gX6_26 C dX6_begins_27 ?_
        refine r_aload_n C dX6_begins_30 0 rfl ?_
        refine gX6_50 C dX6_begins_31 ?_
        refine r_iload_n C dX6_begins_34 2 rfl ?_
        refine r_iald 40 C dX6_begins_35 (by omega) (fun _ => rfl) (by omega) (by omega) (by decide) (fun g8 => ?_)
        refine r_iald 40 C dX6_begins_36 (by omega) (fun _ => rfl) (by omega) (by omega) (by decide) (fun g9 => ?_)
        refine r_if_ne (tgt := 59) C dX6_begins_37 (by decide) (by omega) (fun h10 => ?_) (fun h10 => ?_)
        · skip
          refine r_iconst C dX6_begins_59 ?_
          refine r_goto (tgt := 64) C dX6_begins_60 (by decide) ?_
          exact hret _ _ _ _ dX6_begins_64 (Or.inr rfl) (⟨rfl, Or.inl ⟨rfl, by unfold bgP Mm; omega⟩⟩)
        · skip
          refine r_aload_n C dX6_begins_40 0 rfl ?_
          refine gX6_26 C dX6_begins_41 ?_
          refine r_aload_n C dX6_begins_44 0 rfl ?_
          refine gX6_50 C dX6_begins_45 ?_
          refine r_iload_n C dX6_begins_48 2 rfl ?_
          refine r_iconst C dX6_begins_49 ?_
          refine r_isub C dX6_begins_50 ?_
          refine r_iald 40 C dX6_begins_51 (by omega) (fun _ => rfl) (by omega) (by omega) (by decide) (fun g13 => ?_)
          refine r_iald 40 C dX6_begins_52 (by omega) (fun _ => rfl) (by omega) (by omega) (by decide) (fun g14 => ?_)
          refine r_iconst C dX6_begins_53 ?_
          refine r_iand C dX6_begins_54 ?_
          rw [iand_1 (by omega)]
          refine r_iconst C dX6_begins_55 ?_
          refine r_icmp_ne (tgt := 63) C dX6_begins_56 (by decide) (by omega) (by omega) (fun h15 => ?_) (fun h15 => ?_)
          · skip
            refine r_iconst C dX6_begins_63 ?_
            exact hret _ _ _ _ dX6_begins_64 (Or.inl rfl) (⟨rfl, Or.inr ⟨rfl, by unfold bgP Mm; omega⟩⟩)
          · skip
            refine r_iconst C dX6_begins_59 ?_
            refine r_goto (tgt := 64) C dX6_begins_60 (by decide) ?_
            exact hret _ _ _ _ dX6_begins_64 (Or.inr rfl) (⟨rfl, Or.inl ⟨rfl, by unfold bgP Mm; omega⟩⟩)
      · skip
        refine r_if_eq (tgt := 59) C dX6_begins_23 (by decide) (by decide) (fun _ => ?_) (fun q => absurd q (by decide))
        refine r_iconst C dX6_begins_59 ?_
        refine r_goto (tgt := 64) C dX6_begins_60 (by decide) ?_
        exact hret _ _ _ _ dX6_begins_64 (Or.inr rfl) (⟨rfl, Or.inl ⟨rfl, by unfold bgP Mm; omega⟩⟩)
  · skip
    refine r_if_ne (tgt := 11) C dX6_begins_6 (by decide) (by decide) (fun q => absurd q (by decide)) (fun _ => ?_)
    refine r_iconst C dX6_begins_9 ?_
    exact hret _ _ _ _ dX6_begins_10 (Or.inl rfl) (⟨rfl, Or.inr ⟨rfl, by unfold bgP Mm; omega⟩⟩)

set_option maxHeartbeats 4000000 in
set_option maxRecDepth 100000 in
theorem m_X6_restsFrom {a : Nat → Nat} {n : Nat} {σ : ST} {v i : Int} (hI : RowIn σ) (hv : 0 ≤ v ∧ v < 6) (hi : 0 ≤ i ∧ i < σ 18 18) : MP yX6_restsFrom cX6_restsFrom 4 .int (RM 2 44) a n σ [.ref (a 18), iv v, iv i] (fun r => r = 1 + lenT (Pm σ v) (Mm σ) (σ 18 18) (i + 1)) := by
  refine MI.of (own := RX6) (by decide +kernel) rfl (Nat.le_of_ble_eq_true rfl) ?_
  intro κ C hret
  show J κ 0 0 a n σ [(0, .ref (a 18)), (1, iv v), (2, iv i)] 0 []
  have hrm := hI.2.1
  refine r_iconst C dX6_restsFrom_0 ?_
  refine r_istore_n C dX6_restsFrom_1 (by decide) (fun z_ => [(3, iv z_), (0, .ref (a 18)), (1, iv v), (2, iv i)]) (fun _ => rfl) (fun m0 em0 => ?_)
  have lp2 : ∀ (N : Nat) (m : Int), (σ 18 18 - i - m : Int) < N → (1 ≤ m ∧ i + m ≤ σ 18 18 ∧ 1 + lenT (Pm σ v) (Mm σ) (σ 18 18) (i + 1) = m + lenT (Pm σ v) (Mm σ) (σ 18 18) (i + m)) → J κ 0 0 a n σ [(0, .ref (a 18)), (1, iv v), (2, iv i), (3, iv m)] 2 [] := by
    intro N
    induction N with
    | zero =>
      intro m hm2 hi2
      exact absurd hm2 (by omega)
    | succ N ih2 =>
      intro m hm2 hi2
      obtain ⟨hi1, hi2, hi3⟩ := hi2
      refine r_iload_n C dX6_restsFrom_2 2 rfl ?_
      refine r_iload_n C dX6_restsFrom_3 3 rfl ?_
      refine r_iadd C dX6_restsFrom_4 ?_
      refine r_aload_n C dX6_restsFrom_5 0 rfl ?_
      refine gX6_106 C dX6_restsFrom_6 (fun g1 => ?_)
      refine r_icmp_ge (tgt := 40) C dX6_restsFrom_9 (by decide) (by omega) (by omega) (fun h2 => ?_) (fun h2 => ?_)
      · skip
        refine r_iload_n C dX6_restsFrom_40 3 rfl ?_
        exact hret _ _ _ _ dX6_restsFrom_41 ⟨rfl, by rw [hi3, lenT_f (fun q => by first | omega | exact hr q.2.1 | exact q.2.2 hg)]; omega⟩
      · skip
        refine r_aload_n C dX6_restsFrom_12 0 rfl ?_
        refine r_iload_n C dX6_restsFrom_13 1 rfl ?_
        refine r_iload_n C dX6_restsFrom_14 2 rfl ?_
        refine r_iload_n C dX6_restsFrom_15 3 rfl ?_
        refine r_iadd C dX6_restsFrom_16 ?_
        refine r_callB2 18 C dX6_restsFrom_17 lkX6_109 (m_X6_rests hI (by omega) (by omega)) ⟨rfl, rfl, Nat.le_of_ble_eq_true rfl, Nat.le_of_ble_eq_true rfl⟩ ⟨Nat.zero_le _, Nat.zero_le _⟩ rc18 (Nat.le_of_ble_eq_true rfl) (fun hr => ?_) (fun hr => ?_)
        · skip
          refine r_if_eq (tgt := 40) C dX6_restsFrom_20 (by decide) (by decide) (fun q => absurd q (by decide)) (fun _ => ?_)
          refine r_aload_n C dX6_restsFrom_23 0 rfl ?_
          refine r_iload_n C dX6_restsFrom_24 1 rfl ?_
          refine r_iload_n C dX6_restsFrom_25 2 rfl ?_
          refine r_iload_n C dX6_restsFrom_26 3 rfl ?_
          refine r_iadd C dX6_restsFrom_27 ?_
          refine r_callB2 18 C dX6_restsFrom_28 lkX6_113 (m_X6_begins hI (by omega) (by omega)) ⟨rfl, rfl, Nat.le_of_ble_eq_true rfl, Nat.le_of_ble_eq_true rfl⟩ ⟨Nat.zero_le _, Nat.zero_le _⟩ rc18 (Nat.le_of_ble_eq_true rfl) (fun hg => ?_) (fun hg => ?_)
          · skip
            refine r_if_ne (tgt := 40) C dX6_restsFrom_31 (by decide) (by decide) (fun _ => ?_) (fun q => absurd q (by decide))
            refine r_iload_n C dX6_restsFrom_40 3 rfl ?_
            exact hret _ _ _ _ dX6_restsFrom_41 ⟨rfl, by rw [hi3, lenT_f (fun q => by first | omega | exact hr q.2.1 | exact q.2.2 hg)]; omega⟩
          · skip
            refine r_if_ne (tgt := 40) C dX6_restsFrom_31 (by decide) (by decide) (fun q => absurd q (by decide)) (fun _ => ?_)
            refine r_iinc C dX6_restsFrom_34 (by decide) 3 rfl (fun z_ => [(3, iv z_), (0, .ref (a 18)), (1, iv v), (2, iv i)]) (fun _ => rfl) (fun m2 em2 => ?_)
            refine r_goto (tgt := 2) C dX6_restsFrom_37 (by decide) ?_
            refine r_sub [1, 2, 3, 0] (L' := [(0, .ref (a 18)), (1, iv v), (2, iv i), (3, iv m2)]) rfl ?_
            exact ih2 _ (by omega) (by subst em2; exact ⟨by omega, by omega, by rw [hi3, lenT_t (by omega) hr hg, show i + m + 1 = i + (m + 1) by omega]; omega⟩)
        · skip
          refine r_if_eq (tgt := 40) C dX6_restsFrom_20 (by decide) (by decide) (fun _ => ?_) (fun q => absurd q (by decide))
          refine r_iload_n C dX6_restsFrom_40 3 rfl ?_
          exact hret _ _ _ _ dX6_restsFrom_41 ⟨rfl, by rw [hi3, lenT_f (fun q => by first | omega | exact hr q.2.1 | exact q.2.2 hg)]; omega⟩
  refine r_sub [1, 2, 3, 0] (L' := [(0, .ref (a 18)), (1, iv v), (2, iv i), (3, iv m0)]) rfl ?_
  exact lp2 ((σ 18 18 - i - 1 : Int).toNat + 1) _ (by omega) (by subst em0; exact ⟨by omega, by omega, rfl⟩)

def FRI (σ τ : ST) (b : Int) : Prop := 0 ≤ b ∧ b ≤ σ 18 0 ∧ FrM σ τ ∧ τ 18 18 = cntN (σ 20) b.toNat ∧ ∀ c : Nat, (c : Int) < b → σ 20 c ≤ 3 → τ 28 (cntN (σ 20) c) = c
theorem FRI.skip {σ τ : ST} {b : Int} (h : FRI σ τ b) (hb : b < σ 18 0) (hc : 3 < σ 20 b) : FRI σ τ (b + 1) := by
  obtain ⟨h1, h2, h3, h4, h5⟩ := h
  refine ⟨by omega, by omega, h3, ?_, fun c h6 h7 => ?_⟩
  · rw [cntN_s _ h1, if_neg (by omega)]; omega
  · by_cases h8 : (c : Int) = b
    · rw [h8] at h7; omega
    · exact h5 c (by omega) h7
theorem cntN_mono (mk : Int → Int) : ∀ (b c : Nat), b ≤ c → cntN mk b ≤ cntN mk c
  | b, 0, h => by
    have : b = 0 := by omega
    subst this; exact Int.le_refl _
  | b, c + 1, h => by
    by_cases h1 : b = c + 1
    · subst h1; exact Int.le_refl _
    · have h2 := cntN_mono mk b c (by omega)
      have h3 : cntN mk c ≤ cntN mk (c + 1) := by
        conv => rhs; unfold cntN
        split <;> omega
      omega
theorem cntN_lt (mk : Int → Int) {b c : Nat} (h : b < c) (hb : mk b ≤ 3) : cntN mk b < cntN mk c := by
  have h1 := cntN_mono mk (b + 1) c h
  have h2 : cntN mk (b + 1) = cntN mk b + 1 := by
    conv => lhs; unfold cntN
    rw [if_pos hb]
  omega
theorem FRI.add {σ τ : ST} {b : Int} (h : FRI σ τ b) (hb : b < σ 18 0) (hc : ¬ 3 < σ 20 b) : FRI σ (up2 (up2 τ 28 (τ 18 18) b) 18 18 (τ 18 18 + 1)) (b + 1) := by
  obtain ⟨h1, h2, h3, h4, h5⟩ := h
  refine ⟨by omega, by omega, (h3.up (Or.inl rfl) _ _).up18 _, ?_, fun c h6 h7 => ?_⟩
  · rw [up2_self, cntN_s _ h1, if_pos (by omega)]; omega
  · rw [up2_ne (by decide)]
    by_cases h8 : (c : Int) = b
    · have e : b.toNat = c := by omega
      rw [h4, e, up2_self]; omega
    · have h9 : cntN (σ 20) c < cntN (σ 20) b.toNat := cntN_lt _ (by omega) h7
      rw [up2_at (by omega)]
      exact h5 c (by omega) h7
set_option maxHeartbeats 4000000 in
set_option maxRecDepth 100000 in
theorem m_X6_findRow {a : Nat → Nat} {n : Nat} {σ : ST} (hn : 0 ≤ σ 18 0 ∧ σ 18 0 ≤ 40) : MV yX6_findRow cX6_findRow 2 (RM 1 21) a n σ [.ref (a 18)] (fun σ1 => FrM σ σ1 ∧ RowOK (σ 20) (σ 18 0) (σ1 28) (σ1 18 18)) := by
  refine MV.of (own := RX6) (by decide +kernel) rfl (Nat.le_of_ble_eq_true rfl) ?_
  intro κ C hret
  show J κ 0 0 a n σ [(0, .ref (a 18))] 0 []
  refine r_aload_n C dX6_findRow_0 0 rfl ?_
  refine r_iconst C dX6_findRow_1 ?_
  refine pX6_106 C dX6_findRow_2 (by omega) ?_
  refine r_iconst C dX6_findRow_5 ?_
  refine r_istore_n C dX6_findRow_6 (by decide) (fun z_ => [(1, iv z_), (0, .ref (a 18))]) (fun _ => rfl) (fun b0 eb0 => ?_)
  have lp7 : ∀ (N : Nat) (b : Int) (τ : ST), (σ 18 0 - b : Int) < N → (FRI σ τ b) → J κ 0 0 a n τ [(0, .ref (a 18)), (1, iv b)] 7 [] := by
    intro N
    induction N with
    | zero =>
      intro b τ hm7 hi7
      exact absurd hm7 (by have := hi7.2.1; omega)
    | succ N ih7 =>
      intro b τ hm7 hi7
      have e0 := hi7.2.2.1.2 0 (by decide)
      have e20 := hi7.2.2.1.1 20 (by decide) (by decide) (by decide) (by decide) (by decide) (by decide)
      have hb0 := hi7.1
      have hb1 := hi7.2.1
      have hcn := cntN_bd (σ 20) b.toNat
      have h4 := hi7.2.2.2.1
      refine r_iload_n C dX6_findRow_7 1 rfl ?_
      refine r_aload_n C dX6_findRow_8 0 rfl ?_
      refine gX6_82 C dX6_findRow_9 (fun g1 => ?_)
      refine r_icmp_ge (tgt := 52) C dX6_findRow_12 (by decide) (by omega) (by omega) (fun h2 => ?_) (fun h2 => ?_)
      · skip
        exact hret _ _ _ dX6_findRow_52 (by have hbe : b = σ 18 0 := (by omega); subst hbe; exact ⟨hi7.2.2.1, hi7.2.2.2.1, hi7.2.2.2.2⟩)
      · skip
        refine r_aload_n C dX6_findRow_15 0 rfl ?_
        refine r_iload_n C dX6_findRow_16 1 rfl ?_
        refine r_callB1 18 C dX6_findRow_17 lkX6_103 (m_X6_isCut (by omega)) ⟨rfl, rfl, Nat.le_of_ble_eq_true rfl, Nat.le_of_ble_eq_true rfl⟩ ⟨Nat.zero_le _, Nat.zero_le _⟩ rc18 (Nat.le_of_ble_eq_true rfl) (fun hc => ?_) (fun hc => ?_)
        · skip
          refine r_if_eq (tgt := 26) C dX6_findRow_20 (by decide) (by decide) (fun q => absurd q (by decide)) (fun _ => ?_)
          refine r_goto (tgt := 46) C dX6_findRow_23 (by decide) ?_
          refine r_iinc C dX6_findRow_46 (by decide) 1 rfl (fun z_ => [(1, iv z_), (0, .ref (a 18))]) (fun _ => rfl) (fun b2 eb2 => ?_)
          refine r_goto (tgt := 7) C dX6_findRow_49 (by decide) ?_
          refine r_sub [1, 0] (L' := [(0, .ref (a 18)), (1, iv b2)]) rfl ?_
          exact ih7 _ _ (by omega) (by subst eb2; exact hi7.skip (by omega) (by rw [e20] at hc; exact hc))
        · skip
          refine r_if_eq (tgt := 26) C dX6_findRow_20 (by decide) (by decide) (fun _ => ?_) (fun q => absurd q (by decide))
          refine r_aload_n C dX6_findRow_26 0 rfl ?_
          refine gX6_50 C dX6_findRow_27 ?_
          refine r_aload_n C dX6_findRow_30 0 rfl ?_
          refine gX6_106 C dX6_findRow_31 (fun g6 => ?_)
          refine r_iload_n C dX6_findRow_34 1 rfl ?_
          refine r_iast 40 C dX6_findRow_35 (by omega) (fun _ _ => rfl) (by omega) (by omega) (by decide) (by omega) ?_
          refine r_aload_n C dX6_findRow_36 0 rfl ?_
          refine r_dup C dX6_findRow_37 rfl ?_
          refine gX6_106 C dX6_findRow_38 (fun g7 => ?_)
          rw [up2_ne (show (18 : Nat) ≠ 28 from by decide)] at g7 ⊢
          refine r_iconst C dX6_findRow_41 ?_
          refine r_iadd C dX6_findRow_42 ?_
          refine pX6_106 C dX6_findRow_43 (by omega) ?_
          refine r_iinc C dX6_findRow_46 (by decide) 1 rfl (fun z_ => [(1, iv z_), (0, .ref (a 18))]) (fun _ => rfl) (fun b2 eb2 => ?_)
          refine r_goto (tgt := 7) C dX6_findRow_49 (by decide) ?_
          refine r_sub [1, 0] (L' := [(0, .ref (a 18)), (1, iv b2)]) rfl ?_
          exact ih7 _ _ (by omega) (by subst eb2; exact hi7.add (by omega) (by rw [e20] at hc; exact hc))
  refine r_sub [1, 0] (L' := [(0, .ref (a 18)), (1, iv b0)]) rfl ?_
  exact lp7 ((σ 18 0 : Int).toNat + 1) _ _ (by omega) (by subst eb0; exact ⟨by omega, by omega, FrM.rf.up18 _, up2_self, fun c h => by omega⟩)
end
section
set_option maxHeartbeats 4000000 in
set_option maxRecDepth 100000 in
theorem m_X6_bar {a : Nat → Nat} {n : Nat} {σ : ST} (hM : MS σ) {x : Int} (hx : inR x) : MI yX6_bar cX6_bar 2 .int (RM 1 22) a n σ [.ref (a 18), iv x] (fun r σ1 => ((1 ≤ x ∧ x ≤ 60) ∧ σ 18 0 < 40 ∧ r = σ 18 0 ∧ σ1 = up2 (up2 (up2 σ 19 (σ 18 0) x) 20 (σ 18 0) 0) 18 0 (σ 18 0 + 1)) ∨ ((1 ≤ x ∧ x ≤ 60) ∧ σ 18 0 = 40 ∧ r = -1000004 ∧ σ1 = fd σ 27 4) ∨ (¬ (1 ≤ x ∧ x ≤ 60) ∧ r = -1000001 ∧ σ1 = fd σ 27 1)) := by
  refine MI.of (own := RX6) (by decide +kernel) rfl (Nat.le_of_ble_eq_true rfl) ?_
  intro κ C hret
  show J κ 0 0 a n σ [(0, .ref (a 18)), (1, iv x)] 0 []
  obtain ⟨hb, hvn, hwt, hky, hdu, hwd, hli, hne, hse, hmk, hkd, hsh, hos, hpl, hld, hF, hlp, hpo⟩ := id hM
  refine r_iload_n C dX6_bar_0 1 rfl ?_
  refine r_iconst C dX6_bar_1 ?_
  refine r_bipush C dX6_bar_2 (by decide) ?_
  refine r_callSB3 C dX6_bar_4 lkX6_85 (m_X6_in (by omega) (by omega) (by omega)) ⟨rfl, rfl, Nat.le_of_ble_eq_true rfl, Nat.le_of_ble_eq_true rfl⟩ ⟨Nat.zero_le _, Nat.zero_le _⟩ (Nat.le_of_ble_eq_true rfl) (fun h1 => ?_) (fun h1 => ?_)
  · skip
    refine r_if_ne (tgt := 16) C dX6_bar_7 (by decide) (by decide) (fun _ => ?_) (fun q => absurd q (by decide))
    refine r_aload_n C dX6_bar_16 0 rfl ?_
    refine gX6_82 C dX6_bar_17 (fun g3 => ?_)
    refine r_bipush C dX6_bar_20 (by decide) ?_
    refine r_icmp_ne (tgt := 31) C dX6_bar_22 (by decide) (by omega) (by omega) (fun h4 => ?_) (fun h4 => ?_)
    · skip
      refine r_aload_n C dX6_bar_31 0 rfl ?_
      refine gX6_22 C dX6_bar_32 ?_
      refine r_aload_n C dX6_bar_35 0 rfl ?_
      refine gX6_82 C dX6_bar_36 (fun g6 => ?_)
      refine r_iload_n C dX6_bar_39 1 rfl ?_
      refine r_iast 40 C dX6_bar_40 (by omega) (fun _ _ => rfl) (by omega) (by omega) (by decide) (by omega) ?_
      refine r_aload_n C dX6_bar_41 0 rfl ?_
      refine gX6_26 C dX6_bar_42 ?_
      refine r_aload_n C dX6_bar_45 0 rfl ?_
      refine gX6_82 C dX6_bar_46 (fun g8 => ?_)
      rw [up2_ne (show (18 : Nat) ≠ 19 from by decide)] at g8 ⊢
      refine r_iconst C dX6_bar_49 ?_
      refine r_iast 40 C dX6_bar_50 (by omega) (fun _ _ => rfl) (by omega) (by omega) (by decide) (by omega) ?_
      refine r_aload_n C dX6_bar_51 0 rfl ?_
      refine r_dup C dX6_bar_52 rfl ?_
      refine gX6_82 C dX6_bar_53 (fun g9 => ?_)
      rw [up2_ne (show (18 : Nat) ≠ 20 from by decide)] at g9 ⊢
      rw [up2_ne (show (18 : Nat) ≠ 19 from by decide)] at g9 ⊢
      refine r_iconst C dX6_bar_56 ?_
      refine r_iadd C dX6_bar_57 ?_
      refine pX6_82 C dX6_bar_58 (by omega) ?_
      refine r_aload_n C dX6_bar_61 0 rfl ?_
      refine gX6_82 C dX6_bar_62 (fun g10 => ?_)
      rw [up2_self] at g10 ⊢
      refine r_iconst C dX6_bar_65 ?_
      refine r_isub C dX6_bar_66 ?_
      exact hret _ _ _ _ dX6_bar_67 (by first | (refine (Or.inl ⟨?_, ?_, ?_, ?_⟩) <;> first | omega | assumption | rfl) | (refine (Or.inr (Or.inl ⟨?_, ?_, ?_, ?_⟩)) <;> first | omega | assumption | rfl) | (refine (Or.inr (Or.inr ⟨?_, ?_, ?_⟩)) <;> first | omega | assumption | rfl))
    · skip
      refine r_aload_n C dX6_bar_25 0 rfl ?_
      refine r_iconst C dX6_bar_26 ?_
      refine r_callI1 18 C dX6_bar_27 lkX6_92 (m_X6_finds (by omega) (MS.F (by assumption) _)) ⟨rfl, rfl, Nat.le_of_ble_eq_true rfl, Nat.le_of_ble_eq_true rfl⟩ ⟨Nat.zero_le _, Nat.zero_le _⟩ rc18 (Nat.le_of_ble_eq_true rfl) (fun r11 s12 hr11 => ?_)
      obtain ⟨er11, hr11⟩ := hr11
      exact hret _ _ _ _ dX6_bar_30 (by first | (refine (Or.inl ⟨?_, ?_, ?_, ?_⟩) <;> first | omega | assumption | rfl) | (refine (Or.inr (Or.inl ⟨?_, ?_, ?_, ?_⟩)) <;> first | omega | assumption | rfl) | (refine (Or.inr (Or.inr ⟨?_, ?_, ?_⟩)) <;> first | omega | assumption | rfl))
  · skip
    refine r_if_ne (tgt := 16) C dX6_bar_7 (by decide) (by decide) (fun q => absurd q (by decide)) (fun _ => ?_)
    refine r_aload_n C dX6_bar_10 0 rfl ?_
    refine r_iconst C dX6_bar_11 ?_
    refine r_callI1 18 C dX6_bar_12 lkX6_92 (m_X6_finds (by omega) (MS.F (by assumption) _)) ⟨rfl, rfl, Nat.le_of_ble_eq_true rfl, Nat.le_of_ble_eq_true rfl⟩ ⟨Nat.zero_le _, Nat.zero_le _⟩ rc18 (Nat.le_of_ble_eq_true rfl) (fun r14 s15 hr14 => ?_)
    obtain ⟨er14, hr14⟩ := hr14
    exact hret _ _ _ _ dX6_bar_15 (by first | (refine (Or.inl ⟨?_, ?_, ?_, ?_⟩) <;> first | omega | assumption | rfl) | (refine (Or.inr (Or.inl ⟨?_, ?_, ?_, ?_⟩)) <;> first | omega | assumption | rfl) | (refine (Or.inr (Or.inr ⟨?_, ?_, ?_⟩)) <;> first | omega | assumption | rfl))

set_option maxHeartbeats 4000000 in
set_option maxRecDepth 100000 in
theorem m_X6_voice {a : Nat → Nat} {n : Nat} {σ : ST} (hM : MS σ) {k s : Int} (hk : inR k) (hs : inR s) : MI yX6_voice cX6_voice 3 .int (RM 1 22) a n σ [.ref (a 18), iv k, iv s] (fun r σ1 => (((k = 2 ∧ -11 ≤ s ∧ s ≤ 11) ∨ ((k = 0 ∨ k = 1) ∧ s = 0)) ∧ σ 18 1 < 6 ∧ r = σ 18 1 ∧ σ1 = up2 (up2 (up2 (up2 σ 21 (σ 18 1) k) 22 (σ 18 1) s) 23 (σ 18 1) 1) 18 1 (σ 18 1 + 1)) ∨ (((k = 2 ∧ -11 ≤ s ∧ s ≤ 11) ∨ ((k = 0 ∨ k = 1) ∧ s = 0)) ∧ σ 18 1 = 6 ∧ r = -1000004 ∧ σ1 = fd σ 27 4) ∨ (¬ ((k = 2 ∧ -11 ≤ s ∧ s ≤ 11) ∨ ((k = 0 ∨ k = 1) ∧ s = 0)) ∧ r = -1000001 ∧ σ1 = fd σ 27 1)) := by
  refine MI.of (own := RX6) (by decide +kernel) rfl (Nat.le_of_ble_eq_true rfl) ?_
  intro κ C hret
  show J κ 0 0 a n σ [(0, .ref (a 18)), (1, iv k), (2, iv s)] 0 []
  obtain ⟨hb, hvn, hwt, hky, hdu, hwd, hli, hne, hse, hmk, hkd, hsh, hos, hpl, hld, hF, hlp, hpo⟩ := id hM
  refine r_iload_n C dX6_voice_0 1 rfl ?_
  refine r_iconst C dX6_voice_1 ?_
  refine r_iconst C dX6_voice_2 ?_
  refine r_callSB3 C dX6_voice_3 lkX6_85 (m_X6_in (by omega) (by omega) (by omega)) ⟨rfl, rfl, Nat.le_of_ble_eq_true rfl, Nat.le_of_ble_eq_true rfl⟩ ⟨Nat.zero_le _, Nat.zero_le _⟩ (Nat.le_of_ble_eq_true rfl) (fun h1 => ?_) (fun h1 => ?_)
  · skip
    refine r_if_eq (tgt := 32) C dX6_voice_6 (by decide) (by decide) (fun q => absurd q (by decide)) (fun _ => ?_)
    refine r_iload_n C dX6_voice_9 1 rfl ?_
    refine r_iconst C dX6_voice_10 ?_
    refine r_icmp_ne (tgt := 28) C dX6_voice_11 (by decide) (by omega) (by omega) (fun h3 => ?_) (fun h3 => ?_)
    · skip
      refine r_iload_n C dX6_voice_28 2 rfl ?_
      refine r_if_eq (tgt := 38) C dX6_voice_29 (by decide) (by omega) (fun h4 => ?_) (fun h4 => ?_)
      · skip
        refine r_aload_n C dX6_voice_38 0 rfl ?_
        refine gX6_89 C dX6_voice_39 (fun g5 => ?_)
        refine r_bipush C dX6_voice_42 (by decide) ?_
        refine r_icmp_ne (tgt := 53) C dX6_voice_44 (by decide) (by omega) (by omega) (fun h6 => ?_) (fun h6 => ?_)
        · skip
          refine r_aload_n C dX6_voice_53 0 rfl ?_
          refine gX6_29 C dX6_voice_54 ?_
          refine r_aload_n C dX6_voice_57 0 rfl ?_
          refine gX6_89 C dX6_voice_58 (fun g8 => ?_)
          refine r_iload_n C dX6_voice_61 1 rfl ?_
          refine r_iast 6 C dX6_voice_62 (by omega) (fun _ _ => rfl) (by omega) (by omega) (by decide) (by omega) ?_
          refine r_aload_n C dX6_voice_63 0 rfl ?_
          refine gX6_32 C dX6_voice_64 ?_
          refine r_aload_n C dX6_voice_67 0 rfl ?_
          refine gX6_89 C dX6_voice_68 (fun g10 => ?_)
          rw [up2_ne (show (18 : Nat) ≠ 21 from by decide)] at g10 ⊢
          refine r_iload_n C dX6_voice_71 2 rfl ?_
          refine r_iast 6 C dX6_voice_72 (by omega) (fun _ _ => rfl) (by omega) (by omega) (by decide) (by omega) ?_
          refine r_aload_n C dX6_voice_73 0 rfl ?_
          refine gX6_35 C dX6_voice_74 ?_
          refine r_aload_n C dX6_voice_77 0 rfl ?_
          refine gX6_89 C dX6_voice_78 (fun g12 => ?_)
          rw [up2_ne (show (18 : Nat) ≠ 22 from by decide)] at g12 ⊢
          rw [up2_ne (show (18 : Nat) ≠ 21 from by decide)] at g12 ⊢
          refine r_iconst C dX6_voice_81 ?_
          refine r_iast 6 C dX6_voice_82 (by omega) (fun _ _ => rfl) (by omega) (by omega) (by decide) (by omega) ?_
          refine r_aload_n C dX6_voice_83 0 rfl ?_
          refine r_dup C dX6_voice_84 rfl ?_
          refine gX6_89 C dX6_voice_85 (fun g13 => ?_)
          rw [up2_ne (show (18 : Nat) ≠ 23 from by decide)] at g13 ⊢
          rw [up2_ne (show (18 : Nat) ≠ 22 from by decide)] at g13 ⊢
          rw [up2_ne (show (18 : Nat) ≠ 21 from by decide)] at g13 ⊢
          refine r_iconst C dX6_voice_88 ?_
          refine r_iadd C dX6_voice_89 ?_
          refine pX6_89 C dX6_voice_90 (by omega) ?_
          refine r_aload_n C dX6_voice_93 0 rfl ?_
          refine gX6_89 C dX6_voice_94 (fun g14 => ?_)
          rw [up2_self] at g14 ⊢
          refine r_iconst C dX6_voice_97 ?_
          refine r_isub C dX6_voice_98 ?_
          exact hret _ _ _ _ dX6_voice_99 (by first | (refine (Or.inl ⟨?_, ?_, ?_, ?_⟩) <;> first | omega | assumption | rfl) | (refine (Or.inr (Or.inl ⟨?_, ?_, ?_, ?_⟩)) <;> first | omega | assumption | rfl) | (refine (Or.inr (Or.inr ⟨?_, ?_, ?_⟩)) <;> first | omega | assumption | rfl))
        · skip
          refine r_aload_n C dX6_voice_47 0 rfl ?_
          refine r_iconst C dX6_voice_48 ?_
          refine r_callI1 18 C dX6_voice_49 lkX6_92 (m_X6_finds (by omega) (MS.F (by assumption) _)) ⟨rfl, rfl, Nat.le_of_ble_eq_true rfl, Nat.le_of_ble_eq_true rfl⟩ ⟨Nat.zero_le _, Nat.zero_le _⟩ rc18 (Nat.le_of_ble_eq_true rfl) (fun r15 s16 hr15 => ?_)
          obtain ⟨er15, hr15⟩ := hr15
          exact hret _ _ _ _ dX6_voice_52 (by first | (refine (Or.inl ⟨?_, ?_, ?_, ?_⟩) <;> first | omega | assumption | rfl) | (refine (Or.inr (Or.inl ⟨?_, ?_, ?_, ?_⟩)) <;> first | omega | assumption | rfl) | (refine (Or.inr (Or.inr ⟨?_, ?_, ?_⟩)) <;> first | omega | assumption | rfl))
      · skip
        refine r_aload_n C dX6_voice_32 0 rfl ?_
        refine r_iconst C dX6_voice_33 ?_
        refine r_callI1 18 C dX6_voice_34 lkX6_92 (m_X6_finds (by omega) (MS.F (by assumption) _)) ⟨rfl, rfl, Nat.le_of_ble_eq_true rfl, Nat.le_of_ble_eq_true rfl⟩ ⟨Nat.zero_le _, Nat.zero_le _⟩ rc18 (Nat.le_of_ble_eq_true rfl) (fun r17 s18 hr17 => ?_)
        obtain ⟨er17, hr17⟩ := hr17
        exact hret _ _ _ _ dX6_voice_37 (by first | (refine (Or.inl ⟨?_, ?_, ?_, ?_⟩) <;> first | omega | assumption | rfl) | (refine (Or.inr (Or.inl ⟨?_, ?_, ?_, ?_⟩)) <;> first | omega | assumption | rfl) | (refine (Or.inr (Or.inr ⟨?_, ?_, ?_⟩)) <;> first | omega | assumption | rfl))
    · skip
      refine r_iload_n C dX6_voice_14 2 rfl ?_
      refine r_bipush C dX6_voice_15 (by decide) ?_
      refine r_bipush C dX6_voice_17 (by decide) ?_
      refine r_callSB3 C dX6_voice_19 lkX6_85 (m_X6_in (by omega) (by omega) (by omega)) ⟨rfl, rfl, Nat.le_of_ble_eq_true rfl, Nat.le_of_ble_eq_true rfl⟩ ⟨Nat.zero_le _, Nat.zero_le _⟩ (Nat.le_of_ble_eq_true rfl) (fun h19 => ?_) (fun h19 => ?_)
      · skip
        refine r_if_ne (tgt := 38) C dX6_voice_22 (by decide) (by decide) (fun _ => ?_) (fun q => absurd q (by decide))
        refine r_aload_n C dX6_voice_38 0 rfl ?_
        refine gX6_89 C dX6_voice_39 (fun g21 => ?_)
        refine r_bipush C dX6_voice_42 (by decide) ?_
        refine r_icmp_ne (tgt := 53) C dX6_voice_44 (by decide) (by omega) (by omega) (fun h22 => ?_) (fun h22 => ?_)
        · skip
          refine r_aload_n C dX6_voice_53 0 rfl ?_
          refine gX6_29 C dX6_voice_54 ?_
          refine r_aload_n C dX6_voice_57 0 rfl ?_
          refine gX6_89 C dX6_voice_58 (fun g24 => ?_)
          refine r_iload_n C dX6_voice_61 1 rfl ?_
          refine r_iast 6 C dX6_voice_62 (by omega) (fun _ _ => rfl) (by omega) (by omega) (by decide) (by omega) ?_
          refine r_aload_n C dX6_voice_63 0 rfl ?_
          refine gX6_32 C dX6_voice_64 ?_
          refine r_aload_n C dX6_voice_67 0 rfl ?_
          refine gX6_89 C dX6_voice_68 (fun g26 => ?_)
          rw [up2_ne (show (18 : Nat) ≠ 21 from by decide)] at g26 ⊢
          refine r_iload_n C dX6_voice_71 2 rfl ?_
          refine r_iast 6 C dX6_voice_72 (by omega) (fun _ _ => rfl) (by omega) (by omega) (by decide) (by omega) ?_
          refine r_aload_n C dX6_voice_73 0 rfl ?_
          refine gX6_35 C dX6_voice_74 ?_
          refine r_aload_n C dX6_voice_77 0 rfl ?_
          refine gX6_89 C dX6_voice_78 (fun g28 => ?_)
          rw [up2_ne (show (18 : Nat) ≠ 22 from by decide)] at g28 ⊢
          rw [up2_ne (show (18 : Nat) ≠ 21 from by decide)] at g28 ⊢
          refine r_iconst C dX6_voice_81 ?_
          refine r_iast 6 C dX6_voice_82 (by omega) (fun _ _ => rfl) (by omega) (by omega) (by decide) (by omega) ?_
          refine r_aload_n C dX6_voice_83 0 rfl ?_
          refine r_dup C dX6_voice_84 rfl ?_
          refine gX6_89 C dX6_voice_85 (fun g29 => ?_)
          rw [up2_ne (show (18 : Nat) ≠ 23 from by decide)] at g29 ⊢
          rw [up2_ne (show (18 : Nat) ≠ 22 from by decide)] at g29 ⊢
          rw [up2_ne (show (18 : Nat) ≠ 21 from by decide)] at g29 ⊢
          refine r_iconst C dX6_voice_88 ?_
          refine r_iadd C dX6_voice_89 ?_
          refine pX6_89 C dX6_voice_90 (by omega) ?_
          refine r_aload_n C dX6_voice_93 0 rfl ?_
          refine gX6_89 C dX6_voice_94 (fun g30 => ?_)
          rw [up2_self] at g30 ⊢
          refine r_iconst C dX6_voice_97 ?_
          refine r_isub C dX6_voice_98 ?_
          exact hret _ _ _ _ dX6_voice_99 (by first | (refine (Or.inl ⟨?_, ?_, ?_, ?_⟩) <;> first | omega | assumption | rfl) | (refine (Or.inr (Or.inl ⟨?_, ?_, ?_, ?_⟩)) <;> first | omega | assumption | rfl) | (refine (Or.inr (Or.inr ⟨?_, ?_, ?_⟩)) <;> first | omega | assumption | rfl))
        · skip
          refine r_aload_n C dX6_voice_47 0 rfl ?_
          refine r_iconst C dX6_voice_48 ?_
          refine r_callI1 18 C dX6_voice_49 lkX6_92 (m_X6_finds (by omega) (MS.F (by assumption) _)) ⟨rfl, rfl, Nat.le_of_ble_eq_true rfl, Nat.le_of_ble_eq_true rfl⟩ ⟨Nat.zero_le _, Nat.zero_le _⟩ rc18 (Nat.le_of_ble_eq_true rfl) (fun r31 s32 hr31 => ?_)
          obtain ⟨er31, hr31⟩ := hr31
          exact hret _ _ _ _ dX6_voice_52 (by first | (refine (Or.inl ⟨?_, ?_, ?_, ?_⟩) <;> first | omega | assumption | rfl) | (refine (Or.inr (Or.inl ⟨?_, ?_, ?_, ?_⟩)) <;> first | omega | assumption | rfl) | (refine (Or.inr (Or.inr ⟨?_, ?_, ?_⟩)) <;> first | omega | assumption | rfl))
      · skip
        refine r_if_ne (tgt := 38) C dX6_voice_22 (by decide) (by decide) (fun q => absurd q (by decide)) (fun _ => ?_)
        refine r_goto (tgt := 32) C dX6_voice_25 (by decide) ?_
        refine r_aload_n C dX6_voice_32 0 rfl ?_
        refine r_iconst C dX6_voice_33 ?_
        refine r_callI1 18 C dX6_voice_34 lkX6_92 (m_X6_finds (by omega) (MS.F (by assumption) _)) ⟨rfl, rfl, Nat.le_of_ble_eq_true rfl, Nat.le_of_ble_eq_true rfl⟩ ⟨Nat.zero_le _, Nat.zero_le _⟩ rc18 (Nat.le_of_ble_eq_true rfl) (fun r34 s35 hr34 => ?_)
        obtain ⟨er34, hr34⟩ := hr34
        exact hret _ _ _ _ dX6_voice_37 (by first | (refine (Or.inl ⟨?_, ?_, ?_, ?_⟩) <;> first | omega | assumption | rfl) | (refine (Or.inr (Or.inl ⟨?_, ?_, ?_, ?_⟩)) <;> first | omega | assumption | rfl) | (refine (Or.inr (Or.inr ⟨?_, ?_, ?_⟩)) <;> first | omega | assumption | rfl))
  · skip
    refine r_if_eq (tgt := 32) C dX6_voice_6 (by decide) (by decide) (fun _ => ?_) (fun q => absurd q (by decide))
    refine r_aload_n C dX6_voice_32 0 rfl ?_
    refine r_iconst C dX6_voice_33 ?_
    refine r_callI1 18 C dX6_voice_34 lkX6_92 (m_X6_finds (by omega) (MS.F (by assumption) _)) ⟨rfl, rfl, Nat.le_of_ble_eq_true rfl, Nat.le_of_ble_eq_true rfl⟩ ⟨Nat.zero_le _, Nat.zero_le _⟩ rc18 (Nat.le_of_ble_eq_true rfl) (fun r37 s38 hr37 => ?_)
    obtain ⟨er37, hr37⟩ := hr37
    exact hret _ _ _ _ dX6_voice_37 (by first | (refine (Or.inl ⟨?_, ?_, ?_, ?_⟩) <;> first | omega | assumption | rfl) | (refine (Or.inr (Or.inl ⟨?_, ?_, ?_, ?_⟩)) <;> first | omega | assumption | rfl) | (refine (Or.inr (Or.inr ⟨?_, ?_, ?_⟩)) <;> first | omega | assumption | rfl))

set_option maxHeartbeats 4000000 in
set_option maxRecDepth 100000 in
theorem m_X6_as {a : Nat → Nat} {n : Nat} {σ : ST} (hM : MS σ) {v k : Int} (hk : inR k) (hv : inR v) : MI yX6_as cX6_as 3 .int (RM 2 43) a n σ [.ref (a 18), iv v, iv k] (fun r σ1 => ((0 ≤ v ∧ v < σ 18 1) ∧ (0 ≤ k ∧ k ≤ 2) ∧ (k = 0 ∨ σ 21 v = k) ∧ r = σ 22 v ∧ σ1 = σ) ∨ ((0 ≤ v ∧ v < σ 18 1) ∧ (0 ≤ k ∧ k ≤ 2) ∧ ¬ (k = 0 ∨ σ 21 v = k) ∧ r = -1000005 ∧ σ1 = fd σ 27 5) ∨ (¬ ((0 ≤ v ∧ v < σ 18 1) ∧ (0 ≤ k ∧ k ≤ 2)) ∧ r = -1000001 ∧ σ1 = fd σ 27 1)) := by
  refine MI.of (own := RX6) (by decide +kernel) rfl (Nat.le_of_ble_eq_true rfl) ?_
  intro κ C hret
  show J κ 0 0 a n σ [(0, .ref (a 18)), (1, iv v), (2, iv k)] 0 []
  obtain ⟨hb, hvn, hwt, hky, hdu, hwd, hli, hne, hse, hmk, hkd, hsh, hos, hpl, hld, hF, hlp, hpo⟩ := id hM
  refine r_aload_n C dX6_as_0 0 rfl ?_
  refine r_iload_n C dX6_as_1 1 rfl ?_
  refine r_callB1 18 C dX6_as_2 lkX6_96 (m_X6_isVoice (by omega) (by omega)) ⟨rfl, rfl, Nat.le_of_ble_eq_true rfl, Nat.le_of_ble_eq_true rfl⟩ ⟨Nat.zero_le _, Nat.zero_le _⟩ rc18 (Nat.le_of_ble_eq_true rfl) (fun h1 => ?_) (fun h1 => ?_)
  · skip
    refine r_if_eq (tgt := 17) C dX6_as_5 (by decide) (by decide) (fun q => absurd q (by decide)) (fun _ => ?_)
    refine r_iload_n C dX6_as_8 2 rfl ?_
    refine r_iconst C dX6_as_9 ?_
    refine r_iconst C dX6_as_10 ?_
    refine r_callSB3 C dX6_as_11 lkX6_85 (m_X6_in (by omega) (by omega) (by omega)) ⟨rfl, rfl, Nat.le_of_ble_eq_true rfl, Nat.le_of_ble_eq_true rfl⟩ ⟨Nat.zero_le _, Nat.zero_le _⟩ (Nat.le_of_ble_eq_true rfl) (fun h3 => ?_) (fun h3 => ?_)
    · skip
      refine r_if_ne (tgt := 23) C dX6_as_14 (by decide) (by decide) (fun _ => ?_) (fun q => absurd q (by decide))
      refine r_iload_n C dX6_as_23 2 rfl ?_
      refine r_if_eq (tgt := 37) C dX6_as_24 (by decide) (by omega) (fun h5 => ?_) (fun h5 => ?_)
      · skip
        refine r_aload_n C dX6_as_37 0 rfl ?_
        refine gX6_32 C dX6_as_38 ?_
        refine r_iload_n C dX6_as_41 1 rfl ?_
        refine r_iald 6 C dX6_as_42 (by omega) (fun _ => rfl) (by omega) (by omega) (by decide) (fun g7 => ?_)
        refine r_goto (tgt := 51) C dX6_as_43 (by decide) ?_
        exact hret _ _ _ _ dX6_as_51 (by first | (refine (Or.inl ⟨?_, ?_, ?_, ?_, ?_⟩) <;> first | omega | assumption | rfl) | (refine (Or.inr (Or.inl ⟨?_, ?_, ?_, ?_, ?_⟩)) <;> first | omega | assumption | rfl) | (refine (Or.inr (Or.inr ⟨?_, ?_, ?_⟩)) <;> first | omega | assumption | rfl))
      · skip
        refine r_aload_n C dX6_as_27 0 rfl ?_
        refine gX6_29 C dX6_as_28 ?_
        refine r_iload_n C dX6_as_31 1 rfl ?_
        refine r_iald 6 C dX6_as_32 (by omega) (fun _ => rfl) (by omega) (by omega) (by decide) (fun g9 => ?_)
        refine r_iload_n C dX6_as_33 2 rfl ?_
        refine r_icmp_ne (tgt := 46) C dX6_as_34 (by decide) (by omega) (by omega) (fun h10 => ?_) (fun h10 => ?_)
        · skip
          refine r_aload_n C dX6_as_46 0 rfl ?_
          refine r_iconst C dX6_as_47 ?_
          refine r_callI1 18 C dX6_as_48 lkX6_92 (m_X6_finds (by omega) (MS.F (by assumption) _)) ⟨rfl, rfl, Nat.le_of_ble_eq_true rfl, Nat.le_of_ble_eq_true rfl⟩ ⟨Nat.zero_le _, Nat.zero_le _⟩ rc18 (Nat.le_of_ble_eq_true rfl) (fun r11 s12 hr11 => ?_)
          obtain ⟨er11, hr11⟩ := hr11
          exact hret _ _ _ _ dX6_as_51 (by first | (refine (Or.inl ⟨?_, ?_, ?_, ?_, ?_⟩) <;> first | omega | assumption | rfl) | (refine (Or.inr (Or.inl ⟨?_, ?_, ?_, ?_, ?_⟩)) <;> first | omega | assumption | rfl) | (refine (Or.inr (Or.inr ⟨?_, ?_, ?_⟩)) <;> first | omega | assumption | rfl))
        · skip
          refine r_aload_n C dX6_as_37 0 rfl ?_
          refine gX6_32 C dX6_as_38 ?_
          refine r_iload_n C dX6_as_41 1 rfl ?_
          refine r_iald 6 C dX6_as_42 (by omega) (fun _ => rfl) (by omega) (by omega) (by decide) (fun g14 => ?_)
          refine r_goto (tgt := 51) C dX6_as_43 (by decide) ?_
          exact hret _ _ _ _ dX6_as_51 (by first | (refine (Or.inl ⟨?_, ?_, ?_, ?_, ?_⟩) <;> first | omega | assumption | rfl) | (refine (Or.inr (Or.inl ⟨?_, ?_, ?_, ?_, ?_⟩)) <;> first | omega | assumption | rfl) | (refine (Or.inr (Or.inr ⟨?_, ?_, ?_⟩)) <;> first | omega | assumption | rfl))
    · skip
      refine r_if_ne (tgt := 23) C dX6_as_14 (by decide) (by decide) (fun q => absurd q (by decide)) (fun _ => ?_)
      refine r_aload_n C dX6_as_17 0 rfl ?_
      refine r_iconst C dX6_as_18 ?_
      refine r_callI1 18 C dX6_as_19 lkX6_92 (m_X6_finds (by omega) (MS.F (by assumption) _)) ⟨rfl, rfl, Nat.le_of_ble_eq_true rfl, Nat.le_of_ble_eq_true rfl⟩ ⟨Nat.zero_le _, Nat.zero_le _⟩ rc18 (Nat.le_of_ble_eq_true rfl) (fun r16 s17 hr16 => ?_)
      obtain ⟨er16, hr16⟩ := hr16
      exact hret _ _ _ _ dX6_as_22 (by first | (refine (Or.inl ⟨?_, ?_, ?_, ?_, ?_⟩) <;> first | omega | assumption | rfl) | (refine (Or.inr (Or.inl ⟨?_, ?_, ?_, ?_, ?_⟩)) <;> first | omega | assumption | rfl) | (refine (Or.inr (Or.inr ⟨?_, ?_, ?_⟩)) <;> first | omega | assumption | rfl))
  · skip
    refine r_if_eq (tgt := 17) C dX6_as_5 (by decide) (by decide) (fun _ => ?_) (fun q => absurd q (by decide))
    refine r_aload_n C dX6_as_17 0 rfl ?_
    refine r_iconst C dX6_as_18 ?_
    refine r_callI1 18 C dX6_as_19 lkX6_92 (m_X6_finds (by omega) (MS.F (by assumption) _)) ⟨rfl, rfl, Nat.le_of_ble_eq_true rfl, Nat.le_of_ble_eq_true rfl⟩ ⟨Nat.zero_le _, Nat.zero_le _⟩ rc18 (Nat.le_of_ble_eq_true rfl) (fun r19 s20 hr19 => ?_)
    obtain ⟨er19, hr19⟩ := hr19
    exact hret _ _ _ _ dX6_as_22 (by first | (refine (Or.inl ⟨?_, ?_, ?_, ?_, ?_⟩) <;> first | omega | assumption | rfl) | (refine (Or.inr (Or.inl ⟨?_, ?_, ?_, ?_, ?_⟩)) <;> first | omega | assumption | rfl) | (refine (Or.inr (Or.inr ⟨?_, ?_, ?_⟩)) <;> first | omega | assumption | rfl))

set_option maxHeartbeats 4000000 in
set_option maxRecDepth 100000 in
theorem m_X6_notes {a : Nat → Nat} {n : Nat} {σ : ST} (hM : MS σ) {v b m q : Int} (hv1 : inR v) (hb1 : inR b) (hm1 : inR m) (hq1 : inR q) : MI yX6_notes cX6_notes 6 .int (RM 2 43) a n σ [.ref (a 18), iv v, iv b, iv m, iv q] (fun r σ1 => (((0 ≤ v ∧ v < σ 18 1) ∧ (0 ≤ b ∧ b < σ 18 0) ∧ (0 ≤ m ∧ m ≤ 16) ∧ 0 ≤ q ∧ q ≤ 9 ∧ (m = 0 → q = 0)) ∧ r = σ 24 (40 * v + b) ∧ σ1 = up2 (up2 σ 24 (40 * v + b) m) 25 (40 * v + b) q) ∨ (¬ ((0 ≤ v ∧ v < σ 18 1) ∧ (0 ≤ b ∧ b < σ 18 0) ∧ (0 ≤ m ∧ m ≤ 16) ∧ 0 ≤ q ∧ q ≤ 9 ∧ (m = 0 → q = 0)) ∧ r = -1000001 ∧ σ1 = fd σ 27 1)) := by
  refine MI.of (own := RX6) (by decide +kernel) rfl (Nat.le_of_ble_eq_true rfl) ?_
  intro κ C hret
  show J κ 0 0 a n σ [(0, .ref (a 18)), (1, iv v), (2, iv b), (3, iv m), (4, iv q)] 0 []
  obtain ⟨hb, hvn, hwt, hky, hdu, hwd, hli, hne, hse, hmk, hkd, hsh, hos, hpl, hld, hF, hlp, hpo⟩ := id hM
  refine r_aload_n C dX6_notes_0 0 rfl ?_
  refine r_iload_n C dX6_notes_1 1 rfl ?_
  refine r_callB1 18 C dX6_notes_2 lkX6_96 (m_X6_isVoice (by omega) (by omega)) ⟨rfl, rfl, Nat.le_of_ble_eq_true rfl, Nat.le_of_ble_eq_true rfl⟩ ⟨Nat.zero_le _, Nat.zero_le _⟩ rc18 (Nat.le_of_ble_eq_true rfl) (fun h1 => ?_) (fun h1 => ?_)
  · skip
    refine r_if_eq (tgt := 45) C dX6_notes_5 (by decide) (by decide) (fun q => absurd q (by decide)) (fun _ => ?_)
    refine r_aload_n C dX6_notes_8 0 rfl ?_
    refine r_iload_n C dX6_notes_9 2 rfl ?_
    refine r_callB1 18 C dX6_notes_10 lkX6_100 (m_X6_isBar (by omega) (by omega)) ⟨rfl, rfl, Nat.le_of_ble_eq_true rfl, Nat.le_of_ble_eq_true rfl⟩ ⟨Nat.zero_le _, Nat.zero_le _⟩ rc18 (Nat.le_of_ble_eq_true rfl) (fun h3 => ?_) (fun h3 => ?_)
    · skip
      refine r_if_eq (tgt := 45) C dX6_notes_13 (by decide) (by decide) (fun q => absurd q (by decide)) (fun _ => ?_)
      refine r_iload_n C dX6_notes_16 3 rfl ?_
      refine r_iconst C dX6_notes_17 ?_
      refine r_bipush C dX6_notes_18 (by decide) ?_
      refine r_callSB3 C dX6_notes_20 lkX6_85 (m_X6_in (by omega) (by omega) (by omega)) ⟨rfl, rfl, Nat.le_of_ble_eq_true rfl, Nat.le_of_ble_eq_true rfl⟩ ⟨Nat.zero_le _, Nat.zero_le _⟩ (Nat.le_of_ble_eq_true rfl) (fun h5 => ?_) (fun h5 => ?_)
      · skip
        refine r_if_eq (tgt := 45) C dX6_notes_23 (by decide) (by decide) (fun q => absurd q (by decide)) (fun _ => ?_)
        refine r_iload C dX6_notes_26 4 rfl ?_
        refine r_iconst C dX6_notes_28 ?_
        refine r_iload_n C dX6_notes_29 3 rfl ?_
        refine r_if_ne (tgt := 37) C dX6_notes_30 (by decide) (by omega) (fun h7 => ?_) (fun h7 => ?_)
        · skip
          refine r_bipush C dX6_notes_37 (by decide) ?_
          refine r_callSB3 C dX6_notes_39 lkX6_85 (m_X6_in (by omega) (by omega) (by omega)) ⟨rfl, rfl, Nat.le_of_ble_eq_true rfl, Nat.le_of_ble_eq_true rfl⟩ ⟨Nat.zero_le _, Nat.zero_le _⟩ (Nat.le_of_ble_eq_true rfl) (fun h8 => ?_) (fun h8 => ?_)
          · skip
            refine r_if_ne (tgt := 51) C dX6_notes_42 (by decide) (by decide) (fun _ => ?_) (fun q => absurd q (by decide))
            refine r_aload_n C dX6_notes_51 0 rfl ?_
            refine gX6_38 C dX6_notes_52 ?_
            refine r_bipush C dX6_notes_55 (by decide) ?_
            refine r_iload_n C dX6_notes_57 1 rfl ?_
            refine r_imul C dX6_notes_58 ?_
            refine r_iload_n C dX6_notes_59 2 rfl ?_
            refine r_iadd C dX6_notes_60 ?_
            refine r_iald 240 C dX6_notes_61 (by omega) (fun _ => rfl) (by omega) (by omega) (by decide) (fun g11 => ?_)
            refine r_istore C dX6_notes_62 (by decide) (fun z_ => [(5, iv z_), (0, .ref (a 18)), (1, iv v), (2, iv b), (3, iv m), (4, iv q)]) (fun _ => rfl) (fun x5_12 ex5_12 => ?_)
            refine r_aload_n C dX6_notes_64 1 rfl ?_
            refine gX6_38 C dX6_notes_65 ?_
            refine r_bipush C dX6_notes_68 (by decide) ?_
            refine r_iload_n C dX6_notes_70 2 rfl ?_
            refine r_imul C dX6_notes_71 ?_
            refine r_iload_n C dX6_notes_72 3 rfl ?_
            refine r_iadd C dX6_notes_73 ?_
            refine r_iload_n C dX6_notes_74 4 rfl ?_
            refine r_iast 240 C dX6_notes_75 (by omega) (fun _ _ => rfl) (by omega) (by omega) (by decide) (by omega) ?_
            refine r_aload_n C dX6_notes_76 1 rfl ?_
            refine gX6_41 C dX6_notes_77 ?_
            refine r_bipush C dX6_notes_80 (by decide) ?_
            refine r_iload_n C dX6_notes_82 2 rfl ?_
            refine r_imul C dX6_notes_83 ?_
            refine r_iload_n C dX6_notes_84 3 rfl ?_
            refine r_iadd C dX6_notes_85 ?_
            refine r_iload C dX6_notes_86 5 rfl ?_
            refine r_iast 240 C dX6_notes_88 (by omega) (fun _ _ => rfl) (by omega) (by omega) (by decide) (by omega) ?_
            refine r_iload C dX6_notes_89 0 rfl ?_
            exact hret _ _ _ _ dX6_notes_91 (by first | (refine (Or.inl ⟨?_, ?_, ?_⟩) <;> first | omega | assumption | rfl) | (refine (Or.inr ⟨?_, ?_, ?_⟩) <;> first | omega | assumption | rfl))
          · skip
            refine r_if_ne (tgt := 51) C dX6_notes_42 (by decide) (by decide) (fun q => absurd q (by decide)) (fun _ => ?_)
            refine r_aload_n C dX6_notes_45 0 rfl ?_
            refine r_iconst C dX6_notes_46 ?_
            refine r_callI1 18 C dX6_notes_47 lkX6_92 (m_X6_finds (by omega) (MS.F (by assumption) _)) ⟨rfl, rfl, Nat.le_of_ble_eq_true rfl, Nat.le_of_ble_eq_true rfl⟩ ⟨Nat.zero_le _, Nat.zero_le _⟩ rc18 (Nat.le_of_ble_eq_true rfl) (fun r16 s17 hr16 => ?_)
            obtain ⟨er16, hr16⟩ := hr16
            exact hret _ _ _ _ dX6_notes_50 (by first | (refine (Or.inl ⟨?_, ?_, ?_⟩) <;> first | omega | assumption | rfl) | (refine (Or.inr ⟨?_, ?_, ?_⟩) <;> first | omega | assumption | rfl))
        · skip
          refine r_iconst C dX6_notes_33 ?_
          refine r_goto (tgt := 39) C dX6_notes_34 (by decide) ?_
          refine r_callSB3 C dX6_notes_39 lkX6_85 (m_X6_in (by omega) (by omega) (by omega)) ⟨rfl, rfl, Nat.le_of_ble_eq_true rfl, Nat.le_of_ble_eq_true rfl⟩ ⟨Nat.zero_le _, Nat.zero_le _⟩ (Nat.le_of_ble_eq_true rfl) (fun h18 => ?_) (fun h18 => ?_)
          · skip
            refine r_if_ne (tgt := 51) C dX6_notes_42 (by decide) (by decide) (fun _ => ?_) (fun q => absurd q (by decide))
            refine r_aload_n C dX6_notes_51 0 rfl ?_
            refine gX6_38 C dX6_notes_52 ?_
            refine r_bipush C dX6_notes_55 (by decide) ?_
            refine r_iload_n C dX6_notes_57 1 rfl ?_
            refine r_imul C dX6_notes_58 ?_
            refine r_iload_n C dX6_notes_59 2 rfl ?_
            refine r_iadd C dX6_notes_60 ?_
            refine r_iald 240 C dX6_notes_61 (by omega) (fun _ => rfl) (by omega) (by omega) (by decide) (fun g21 => ?_)
            refine r_istore C dX6_notes_62 (by decide) (fun z_ => [(5, iv z_), (0, .ref (a 18)), (1, iv v), (2, iv b), (3, iv m), (4, iv q)]) (fun _ => rfl) (fun x5_22 ex5_22 => ?_)
            refine r_aload_n C dX6_notes_64 1 rfl ?_
            refine gX6_38 C dX6_notes_65 ?_
            refine r_bipush C dX6_notes_68 (by decide) ?_
            refine r_iload_n C dX6_notes_70 2 rfl ?_
            refine r_imul C dX6_notes_71 ?_
            refine r_iload_n C dX6_notes_72 3 rfl ?_
            refine r_iadd C dX6_notes_73 ?_
            refine r_iload_n C dX6_notes_74 4 rfl ?_
            refine r_iast 240 C dX6_notes_75 (by omega) (fun _ _ => rfl) (by omega) (by omega) (by decide) (by omega) ?_
            refine r_aload_n C dX6_notes_76 1 rfl ?_
            refine gX6_41 C dX6_notes_77 ?_
            refine r_bipush C dX6_notes_80 (by decide) ?_
            refine r_iload_n C dX6_notes_82 2 rfl ?_
            refine r_imul C dX6_notes_83 ?_
            refine r_iload_n C dX6_notes_84 3 rfl ?_
            refine r_iadd C dX6_notes_85 ?_
            refine r_iload C dX6_notes_86 5 rfl ?_
            refine r_iast 240 C dX6_notes_88 (by omega) (fun _ _ => rfl) (by omega) (by omega) (by decide) (by omega) ?_
            refine r_iload C dX6_notes_89 0 rfl ?_
            exact hret _ _ _ _ dX6_notes_91 (by first | (refine (Or.inl ⟨?_, ?_, ?_⟩) <;> first | omega | assumption | rfl) | (refine (Or.inr ⟨?_, ?_, ?_⟩) <;> first | omega | assumption | rfl))
          · skip
            refine r_if_ne (tgt := 51) C dX6_notes_42 (by decide) (by decide) (fun q => absurd q (by decide)) (fun _ => ?_)
            refine r_aload_n C dX6_notes_45 0 rfl ?_
            refine r_iconst C dX6_notes_46 ?_
            refine r_callI1 18 C dX6_notes_47 lkX6_92 (m_X6_finds (by omega) (MS.F (by assumption) _)) ⟨rfl, rfl, Nat.le_of_ble_eq_true rfl, Nat.le_of_ble_eq_true rfl⟩ ⟨Nat.zero_le _, Nat.zero_le _⟩ rc18 (Nat.le_of_ble_eq_true rfl) (fun r26 s27 hr26 => ?_)
            obtain ⟨er26, hr26⟩ := hr26
            exact hret _ _ _ _ dX6_notes_50 (by first | (refine (Or.inl ⟨?_, ?_, ?_⟩) <;> first | omega | assumption | rfl) | (refine (Or.inr ⟨?_, ?_, ?_⟩) <;> first | omega | assumption | rfl))
      · skip
        refine r_if_eq (tgt := 45) C dX6_notes_23 (by decide) (by decide) (fun _ => ?_) (fun q => absurd q (by decide))
        refine r_aload_n C dX6_notes_45 0 rfl ?_
        refine r_iconst C dX6_notes_46 ?_
        refine r_callI1 18 C dX6_notes_47 lkX6_92 (m_X6_finds (by omega) (MS.F (by assumption) _)) ⟨rfl, rfl, Nat.le_of_ble_eq_true rfl, Nat.le_of_ble_eq_true rfl⟩ ⟨Nat.zero_le _, Nat.zero_le _⟩ rc18 (Nat.le_of_ble_eq_true rfl) (fun r29 s30 hr29 => ?_)
        obtain ⟨er29, hr29⟩ := hr29
        exact hret _ _ _ _ dX6_notes_50 (by first | (refine (Or.inl ⟨?_, ?_, ?_⟩) <;> first | omega | assumption | rfl) | (refine (Or.inr ⟨?_, ?_, ?_⟩) <;> first | omega | assumption | rfl))
    · skip
      refine r_if_eq (tgt := 45) C dX6_notes_13 (by decide) (by decide) (fun _ => ?_) (fun q => absurd q (by decide))
      refine r_aload_n C dX6_notes_45 0 rfl ?_
      refine r_iconst C dX6_notes_46 ?_
      refine r_callI1 18 C dX6_notes_47 lkX6_92 (m_X6_finds (by omega) (MS.F (by assumption) _)) ⟨rfl, rfl, Nat.le_of_ble_eq_true rfl, Nat.le_of_ble_eq_true rfl⟩ ⟨Nat.zero_le _, Nat.zero_le _⟩ rc18 (Nat.le_of_ble_eq_true rfl) (fun r32 s33 hr32 => ?_)
      obtain ⟨er32, hr32⟩ := hr32
      exact hret _ _ _ _ dX6_notes_50 (by first | (refine (Or.inl ⟨?_, ?_, ?_⟩) <;> first | omega | assumption | rfl) | (refine (Or.inr ⟨?_, ?_, ?_⟩) <;> first | omega | assumption | rfl))
  · skip
    refine r_if_eq (tgt := 45) C dX6_notes_5 (by decide) (by decide) (fun _ => ?_) (fun q => absurd q (by decide))
    refine r_aload_n C dX6_notes_45 0 rfl ?_
    refine r_iconst C dX6_notes_46 ?_
    refine r_callI1 18 C dX6_notes_47 lkX6_92 (m_X6_finds (by omega) (MS.F (by assumption) _)) ⟨rfl, rfl, Nat.le_of_ble_eq_true rfl, Nat.le_of_ble_eq_true rfl⟩ ⟨Nat.zero_le _, Nat.zero_le _⟩ rc18 (Nat.le_of_ble_eq_true rfl) (fun r35 s36 hr35 => ?_)
    obtain ⟨er35, hr35⟩ := hr35
    exact hret _ _ _ _ dX6_notes_50 (by first | (refine (Or.inl ⟨?_, ?_, ?_⟩) <;> first | omega | assumption | rfl) | (refine (Or.inr ⟨?_, ?_, ?_⟩) <;> first | omega | assumption | rfl))

set_option maxHeartbeats 4000000 in
set_option maxRecDepth 100000 in
theorem m_X6_sign {a : Nat → Nat} {n : Nat} {σ : ST} (hM : MS σ) {b m : Int} (hb1 : inR b) (hm1 : inR m) : MI yX6_sign cX6_sign 4 .int (RM 2 43) a n σ [.ref (a 18), iv b, iv m] (fun r σ1 => (((0 ≤ b ∧ b < σ 18 0) ∧ 0 ≤ m ∧ m ≤ 7) ∧ r = σ 20 b ∧ σ1 = up2 σ 20 b m) ∨ (¬ ((0 ≤ b ∧ b < σ 18 0) ∧ 0 ≤ m ∧ m ≤ 7) ∧ r = -1000001 ∧ σ1 = fd σ 27 1)) := by
  refine MI.of (own := RX6) (by decide +kernel) rfl (Nat.le_of_ble_eq_true rfl) ?_
  intro κ C hret
  show J κ 0 0 a n σ [(0, .ref (a 18)), (1, iv b), (2, iv m)] 0 []
  obtain ⟨hb, hvn, hwt, hky, hdu, hwd, hli, hne, hse, hmk, hkd, hsh, hos, hpl, hld, hF, hlp, hpo⟩ := id hM
  refine r_aload_n C dX6_sign_0 0 rfl ?_
  refine r_iload_n C dX6_sign_1 1 rfl ?_
  refine r_callB1 18 C dX6_sign_2 lkX6_100 (m_X6_isBar (by omega) (by omega)) ⟨rfl, rfl, Nat.le_of_ble_eq_true rfl, Nat.le_of_ble_eq_true rfl⟩ ⟨Nat.zero_le _, Nat.zero_le _⟩ rc18 (Nat.le_of_ble_eq_true rfl) (fun h1 => ?_) (fun h1 => ?_)
  · skip
    refine r_if_eq (tgt := 18) C dX6_sign_5 (by decide) (by decide) (fun q => absurd q (by decide)) (fun _ => ?_)
    refine r_iload_n C dX6_sign_8 2 rfl ?_
    refine r_iconst C dX6_sign_9 ?_
    refine r_bipush C dX6_sign_10 (by decide) ?_
    refine r_callSB3 C dX6_sign_12 lkX6_85 (m_X6_in (by omega) (by omega) (by omega)) ⟨rfl, rfl, Nat.le_of_ble_eq_true rfl, Nat.le_of_ble_eq_true rfl⟩ ⟨Nat.zero_le _, Nat.zero_le _⟩ (Nat.le_of_ble_eq_true rfl) (fun h3 => ?_) (fun h3 => ?_)
    · skip
      refine r_if_ne (tgt := 24) C dX6_sign_15 (by decide) (by decide) (fun _ => ?_) (fun q => absurd q (by decide))
      refine r_aload_n C dX6_sign_24 0 rfl ?_
      refine gX6_26 C dX6_sign_25 ?_
      refine r_iload_n C dX6_sign_28 1 rfl ?_
      refine r_iald 40 C dX6_sign_29 (by omega) (fun _ => rfl) (by omega) (by omega) (by decide) (fun g6 => ?_)
      refine r_istore_n C dX6_sign_30 (by decide) (fun z_ => [(3, iv z_), (0, .ref (a 18)), (1, iv b), (2, iv m)]) (fun _ => rfl) (fun x3_7 ex3_7 => ?_)
      refine r_aload_n C dX6_sign_31 1 rfl ?_
      refine gX6_26 C dX6_sign_32 ?_
      refine r_iload_n C dX6_sign_35 2 rfl ?_
      refine r_iload_n C dX6_sign_36 3 rfl ?_
      refine r_iast 40 C dX6_sign_37 (by omega) (fun _ _ => rfl) (by omega) (by omega) (by decide) (by omega) ?_
      refine r_iload_n C dX6_sign_38 0 rfl ?_
      exact hret _ _ _ _ dX6_sign_39 (by first | (refine (Or.inl ⟨?_, ?_, ?_⟩) <;> first | omega | assumption | rfl) | (refine (Or.inr ⟨?_, ?_, ?_⟩) <;> first | omega | assumption | rfl))
    · skip
      refine r_if_ne (tgt := 24) C dX6_sign_15 (by decide) (by decide) (fun q => absurd q (by decide)) (fun _ => ?_)
      refine r_aload_n C dX6_sign_18 0 rfl ?_
      refine r_iconst C dX6_sign_19 ?_
      refine r_callI1 18 C dX6_sign_20 lkX6_92 (m_X6_finds (by omega) (MS.F (by assumption) _)) ⟨rfl, rfl, Nat.le_of_ble_eq_true rfl, Nat.le_of_ble_eq_true rfl⟩ ⟨Nat.zero_le _, Nat.zero_le _⟩ rc18 (Nat.le_of_ble_eq_true rfl) (fun r10 s11 hr10 => ?_)
      obtain ⟨er10, hr10⟩ := hr10
      exact hret _ _ _ _ dX6_sign_23 (by first | (refine (Or.inl ⟨?_, ?_, ?_⟩) <;> first | omega | assumption | rfl) | (refine (Or.inr ⟨?_, ?_, ?_⟩) <;> first | omega | assumption | rfl))
  · skip
    refine r_if_eq (tgt := 18) C dX6_sign_5 (by decide) (by decide) (fun _ => ?_) (fun q => absurd q (by decide))
    refine r_aload_n C dX6_sign_18 0 rfl ?_
    refine r_iconst C dX6_sign_19 ?_
    refine r_callI1 18 C dX6_sign_20 lkX6_92 (m_X6_finds (by omega) (MS.F (by assumption) _)) ⟨rfl, rfl, Nat.le_of_ble_eq_true rfl, Nat.le_of_ble_eq_true rfl⟩ ⟨Nat.zero_le _, Nat.zero_le _⟩ rc18 (Nat.le_of_ble_eq_true rfl) (fun r13 s14 hr13 => ?_)
    obtain ⟨er13, hr13⟩ := hr13
    exact hret _ _ _ _ dX6_sign_23 (by first | (refine (Or.inl ⟨?_, ?_, ?_⟩) <;> first | omega | assumption | rfl) | (refine (Or.inr ⟨?_, ?_, ?_⟩) <;> first | omega | assumption | rfl))

set_option maxHeartbeats 4000000 in
set_option maxRecDepth 100000 in
theorem m_X6_stage {a : Nat → Nat} {n : Nat} {σ : ST} (hM : MS σ) {v m : Int} (hv1 : inR v) (hm1 : inR m) : MI yX6_stage cX6_stage 4 .int (RM 2 43) a n σ [.ref (a 18), iv v, iv m] (fun r σ1 => (((0 ≤ v ∧ v < σ 18 1) ∧ 0 ≤ m ∧ m ≤ 1) ∧ r = σ 23 v ∧ σ1 = up2 σ 23 v m) ∨ (¬ ((0 ≤ v ∧ v < σ 18 1) ∧ 0 ≤ m ∧ m ≤ 1) ∧ r = -1000001 ∧ σ1 = fd σ 27 1)) := by
  refine MI.of (own := RX6) (by decide +kernel) rfl (Nat.le_of_ble_eq_true rfl) ?_
  intro κ C hret
  show J κ 0 0 a n σ [(0, .ref (a 18)), (1, iv v), (2, iv m)] 0 []
  obtain ⟨hb, hvn, hwt, hky, hdu, hwd, hli, hne, hse, hmk, hkd, hsh, hos, hpl, hld, hF, hlp, hpo⟩ := id hM
  refine r_aload_n C dX6_stage_0 0 rfl ?_
  refine r_iload_n C dX6_stage_1 1 rfl ?_
  refine r_callB1 18 C dX6_stage_2 lkX6_96 (m_X6_isVoice (by omega) (by omega)) ⟨rfl, rfl, Nat.le_of_ble_eq_true rfl, Nat.le_of_ble_eq_true rfl⟩ ⟨Nat.zero_le _, Nat.zero_le _⟩ rc18 (Nat.le_of_ble_eq_true rfl) (fun h1 => ?_) (fun h1 => ?_)
  · skip
    refine r_if_eq (tgt := 17) C dX6_stage_5 (by decide) (by decide) (fun q => absurd q (by decide)) (fun _ => ?_)
    refine r_iload_n C dX6_stage_8 2 rfl ?_
    refine r_iconst C dX6_stage_9 ?_
    refine r_iconst C dX6_stage_10 ?_
    refine r_callSB3 C dX6_stage_11 lkX6_85 (m_X6_in (by omega) (by omega) (by omega)) ⟨rfl, rfl, Nat.le_of_ble_eq_true rfl, Nat.le_of_ble_eq_true rfl⟩ ⟨Nat.zero_le _, Nat.zero_le _⟩ (Nat.le_of_ble_eq_true rfl) (fun h3 => ?_) (fun h3 => ?_)
    · skip
      refine r_if_ne (tgt := 23) C dX6_stage_14 (by decide) (by decide) (fun _ => ?_) (fun q => absurd q (by decide))
      refine r_aload_n C dX6_stage_23 0 rfl ?_
      refine gX6_35 C dX6_stage_24 ?_
      refine r_iload_n C dX6_stage_27 1 rfl ?_
      refine r_iald 6 C dX6_stage_28 (by omega) (fun _ => rfl) (by omega) (by omega) (by decide) (fun g6 => ?_)
      refine r_istore_n C dX6_stage_29 (by decide) (fun z_ => [(3, iv z_), (0, .ref (a 18)), (1, iv v), (2, iv m)]) (fun _ => rfl) (fun x3_7 ex3_7 => ?_)
      refine r_aload_n C dX6_stage_30 1 rfl ?_
      refine gX6_35 C dX6_stage_31 ?_
      refine r_iload_n C dX6_stage_34 2 rfl ?_
      refine r_iload_n C dX6_stage_35 3 rfl ?_
      refine r_iast 6 C dX6_stage_36 (by omega) (fun _ _ => rfl) (by omega) (by omega) (by decide) (by omega) ?_
      refine r_iload_n C dX6_stage_37 0 rfl ?_
      exact hret _ _ _ _ dX6_stage_38 (by first | (refine (Or.inl ⟨?_, ?_, ?_⟩) <;> first | omega | assumption | rfl) | (refine (Or.inr ⟨?_, ?_, ?_⟩) <;> first | omega | assumption | rfl))
    · skip
      refine r_if_ne (tgt := 23) C dX6_stage_14 (by decide) (by decide) (fun q => absurd q (by decide)) (fun _ => ?_)
      refine r_aload_n C dX6_stage_17 0 rfl ?_
      refine r_iconst C dX6_stage_18 ?_
      refine r_callI1 18 C dX6_stage_19 lkX6_92 (m_X6_finds (by omega) (MS.F (by assumption) _)) ⟨rfl, rfl, Nat.le_of_ble_eq_true rfl, Nat.le_of_ble_eq_true rfl⟩ ⟨Nat.zero_le _, Nat.zero_le _⟩ rc18 (Nat.le_of_ble_eq_true rfl) (fun r10 s11 hr10 => ?_)
      obtain ⟨er10, hr10⟩ := hr10
      exact hret _ _ _ _ dX6_stage_22 (by first | (refine (Or.inl ⟨?_, ?_, ?_⟩) <;> first | omega | assumption | rfl) | (refine (Or.inr ⟨?_, ?_, ?_⟩) <;> first | omega | assumption | rfl))
  · skip
    refine r_if_eq (tgt := 17) C dX6_stage_5 (by decide) (by decide) (fun _ => ?_) (fun q => absurd q (by decide))
    refine r_aload_n C dX6_stage_17 0 rfl ?_
    refine r_iconst C dX6_stage_18 ?_
    refine r_callI1 18 C dX6_stage_19 lkX6_92 (m_X6_finds (by omega) (MS.F (by assumption) _)) ⟨rfl, rfl, Nat.le_of_ble_eq_true rfl, Nat.le_of_ble_eq_true rfl⟩ ⟨Nat.zero_le _, Nat.zero_le _⟩ rc18 (Nat.le_of_ble_eq_true rfl) (fun r13 s14 hr13 => ?_)
    obtain ⟨er13, hr13⟩ := hr13
    exact hret _ _ _ _ dX6_stage_22 (by first | (refine (Or.inl ⟨?_, ?_, ?_⟩) <;> first | omega | assumption | rfl) | (refine (Or.inr ⟨?_, ?_, ?_⟩) <;> first | omega | assumption | rfl))

set_option maxHeartbeats 4000000 in
set_option maxRecDepth 100000 in
theorem m_X6_key {a : Nat → Nat} {n : Nat} {σ : ST} (hM : MS σ) {x : Int} (hx : inR x) : MI yX6_key cX6_key 3 .int (RM 1 22) a n σ [.ref (a 18), iv x] (fun r σ1 => ((-7 ≤ x ∧ x ≤ 7) ∧ r = σ 18 3 ∧ σ1 = up2 σ 18 3 x) ∨ (¬ (-7 ≤ x ∧ x ≤ 7) ∧ r = -1000001 ∧ σ1 = fd σ 27 1)) := by
  refine MI.of (own := RX6) (by decide +kernel) rfl (Nat.le_of_ble_eq_true rfl) ?_
  intro κ C hret
  show J κ 0 0 a n σ [(0, .ref (a 18)), (1, iv x)] 0 []
  obtain ⟨hb, hvn, hwt, hky, hdu, hwd, hli, hne, hse, hmk, hkd, hsh, hos, hpl, hld, hF, hlp, hpo⟩ := id hM
  refine r_iload_n C dX6_key_0 1 rfl ?_
  refine r_bipush C dX6_key_1 (by decide) ?_
  refine r_bipush C dX6_key_3 (by decide) ?_
  refine r_callSB3 C dX6_key_5 lkX6_85 (m_X6_in (by omega) (by omega) (by omega)) ⟨rfl, rfl, Nat.le_of_ble_eq_true rfl, Nat.le_of_ble_eq_true rfl⟩ ⟨Nat.zero_le _, Nat.zero_le _⟩ (Nat.le_of_ble_eq_true rfl) (fun h1 => ?_) (fun h1 => ?_)
  · skip
    refine r_if_ne (tgt := 17) C dX6_key_8 (by decide) (by decide) (fun _ => ?_) (fun q => absurd q (by decide))
    refine r_aload_n C dX6_key_17 0 rfl ?_
    refine gX6_126 C dX6_key_18 (fun g3 => ?_)
    refine r_istore_n C dX6_key_21 (by decide) (fun z_ => [(2, iv z_), (0, .ref (a 18)), (1, iv x)]) (fun _ => rfl) (fun x2_4 ex2_4 => ?_)
    refine r_aload_n C dX6_key_22 1 rfl ?_
    refine r_iload_n C dX6_key_23 2 rfl ?_
    refine pX6_126 C dX6_key_24 (by omega) ?_
    refine r_iload_n C dX6_key_27 0 rfl ?_
    exact hret _ _ _ _ dX6_key_28 (by first | (refine (Or.inl ⟨?_, ?_, ?_⟩) <;> first | omega | assumption | rfl) | (refine (Or.inr ⟨?_, ?_, ?_⟩) <;> first | omega | assumption | rfl))
  · skip
    refine r_if_ne (tgt := 17) C dX6_key_8 (by decide) (by decide) (fun q => absurd q (by decide)) (fun _ => ?_)
    refine r_aload_n C dX6_key_11 0 rfl ?_
    refine r_iconst C dX6_key_12 ?_
    refine r_callI1 18 C dX6_key_13 lkX6_92 (m_X6_finds (by omega) (MS.F (by assumption) _)) ⟨rfl, rfl, Nat.le_of_ble_eq_true rfl, Nat.le_of_ble_eq_true rfl⟩ ⟨Nat.zero_le _, Nat.zero_le _⟩ rc18 (Nat.le_of_ble_eq_true rfl) (fun r6 s7 hr6 => ?_)
    obtain ⟨er6, hr6⟩ := hr6
    exact hret _ _ _ _ dX6_key_16 (by first | (refine (Or.inl ⟨?_, ?_, ?_⟩) <;> first | omega | assumption | rfl) | (refine (Or.inr ⟨?_, ?_, ?_⟩) <;> first | omega | assumption | rfl))

set_option maxHeartbeats 4000000 in
set_option maxRecDepth 100000 in
theorem m_X6_due {a : Nat → Nat} {n : Nat} {σ : ST} (hM : MS σ) {x : Int} (hx : inR x) : MI yX6_due cX6_due 3 .int (RM 1 22) a n σ [.ref (a 18), iv x] (fun r σ1 => ((1 ≤ x ∧ x ≤ 20) ∧ r = σ 18 4 ∧ σ1 = up2 σ 18 4 x) ∨ (¬ (1 ≤ x ∧ x ≤ 20) ∧ r = -1000001 ∧ σ1 = fd σ 27 1)) := by
  refine MI.of (own := RX6) (by decide +kernel) rfl (Nat.le_of_ble_eq_true rfl) ?_
  intro κ C hret
  show J κ 0 0 a n σ [(0, .ref (a 18)), (1, iv x)] 0 []
  obtain ⟨hb, hvn, hwt, hky, hdu, hwd, hli, hne, hse, hmk, hkd, hsh, hos, hpl, hld, hF, hlp, hpo⟩ := id hM
  refine r_iload_n C dX6_due_0 1 rfl ?_
  refine r_iconst C dX6_due_1 ?_
  refine r_bipush C dX6_due_2 (by decide) ?_
  refine r_callSB3 C dX6_due_4 lkX6_85 (m_X6_in (by omega) (by omega) (by omega)) ⟨rfl, rfl, Nat.le_of_ble_eq_true rfl, Nat.le_of_ble_eq_true rfl⟩ ⟨Nat.zero_le _, Nat.zero_le _⟩ (Nat.le_of_ble_eq_true rfl) (fun h1 => ?_) (fun h1 => ?_)
  · skip
    refine r_if_ne (tgt := 16) C dX6_due_7 (by decide) (by decide) (fun _ => ?_) (fun q => absurd q (by decide))
    refine r_aload_n C dX6_due_16 0 rfl ?_
    refine gX6_7 C dX6_due_17 (fun g3 => ?_)
    refine r_istore_n C dX6_due_20 (by decide) (fun z_ => [(2, iv z_), (0, .ref (a 18)), (1, iv x)]) (fun _ => rfl) (fun x2_4 ex2_4 => ?_)
    refine r_aload_n C dX6_due_21 1 rfl ?_
    refine r_iload_n C dX6_due_22 2 rfl ?_
    refine pX6_7 C dX6_due_23 (by omega) ?_
    refine r_iload_n C dX6_due_26 0 rfl ?_
    exact hret _ _ _ _ dX6_due_27 (by first | (refine (Or.inl ⟨?_, ?_, ?_⟩) <;> first | omega | assumption | rfl) | (refine (Or.inr ⟨?_, ?_, ?_⟩) <;> first | omega | assumption | rfl))
  · skip
    refine r_if_ne (tgt := 16) C dX6_due_7 (by decide) (by decide) (fun q => absurd q (by decide)) (fun _ => ?_)
    refine r_aload_n C dX6_due_10 0 rfl ?_
    refine r_iconst C dX6_due_11 ?_
    refine r_callI1 18 C dX6_due_12 lkX6_92 (m_X6_finds (by omega) (MS.F (by assumption) _)) ⟨rfl, rfl, Nat.le_of_ble_eq_true rfl, Nat.le_of_ble_eq_true rfl⟩ ⟨Nat.zero_le _, Nat.zero_le _⟩ rc18 (Nat.le_of_ble_eq_true rfl) (fun r6 s7 hr6 => ?_)
    obtain ⟨er6, hr6⟩ := hr6
    exact hret _ _ _ _ dX6_due_15 (by first | (refine (Or.inl ⟨?_, ?_, ?_⟩) <;> first | omega | assumption | rfl) | (refine (Or.inr ⟨?_, ?_, ?_⟩) <;> first | omega | assumption | rfl))

set_option maxHeartbeats 4000000 in
set_option maxRecDepth 100000 in
theorem m_X6_need {a : Nat → Nat} {n : Nat} {σ : ST} (hM : MS σ) {x : Int} (hx : inR x) : MI yX6_need cX6_need 3 .int (RM 1 22) a n σ [.ref (a 18), iv x] (fun r σ1 => ((0 ≤ x ∧ x ≤ 60) ∧ r = σ 18 7 ∧ σ1 = up2 σ 18 7 x) ∨ (¬ (0 ≤ x ∧ x ≤ 60) ∧ r = -1000001 ∧ σ1 = fd σ 27 1)) := by
  refine MI.of (own := RX6) (by decide +kernel) rfl (Nat.le_of_ble_eq_true rfl) ?_
  intro κ C hret
  show J κ 0 0 a n σ [(0, .ref (a 18)), (1, iv x)] 0 []
  obtain ⟨hb, hvn, hwt, hky, hdu, hwd, hli, hne, hse, hmk, hkd, hsh, hos, hpl, hld, hF, hlp, hpo⟩ := id hM
  refine r_iload_n C dX6_need_0 1 rfl ?_
  refine r_iconst C dX6_need_1 ?_
  refine r_bipush C dX6_need_2 (by decide) ?_
  refine r_callSB3 C dX6_need_4 lkX6_85 (m_X6_in (by omega) (by omega) (by omega)) ⟨rfl, rfl, Nat.le_of_ble_eq_true rfl, Nat.le_of_ble_eq_true rfl⟩ ⟨Nat.zero_le _, Nat.zero_le _⟩ (Nat.le_of_ble_eq_true rfl) (fun h1 => ?_) (fun h1 => ?_)
  · skip
    refine r_if_ne (tgt := 16) C dX6_need_7 (by decide) (by decide) (fun _ => ?_) (fun q => absurd q (by decide))
    refine r_aload_n C dX6_need_16 0 rfl ?_
    refine gX6_19 C dX6_need_17 (fun g3 => ?_)
    refine r_istore_n C dX6_need_20 (by decide) (fun z_ => [(2, iv z_), (0, .ref (a 18)), (1, iv x)]) (fun _ => rfl) (fun x2_4 ex2_4 => ?_)
    refine r_aload_n C dX6_need_21 1 rfl ?_
    refine r_iload_n C dX6_need_22 2 rfl ?_
    refine pX6_19 C dX6_need_23 (by omega) ?_
    refine r_iload_n C dX6_need_26 0 rfl ?_
    exact hret _ _ _ _ dX6_need_27 (by first | (refine (Or.inl ⟨?_, ?_, ?_⟩) <;> first | omega | assumption | rfl) | (refine (Or.inr ⟨?_, ?_, ?_⟩) <;> first | omega | assumption | rfl))
  · skip
    refine r_if_ne (tgt := 16) C dX6_need_7 (by decide) (by decide) (fun q => absurd q (by decide)) (fun _ => ?_)
    refine r_aload_n C dX6_need_10 0 rfl ?_
    refine r_iconst C dX6_need_11 ?_
    refine r_callI1 18 C dX6_need_12 lkX6_92 (m_X6_finds (by omega) (MS.F (by assumption) _)) ⟨rfl, rfl, Nat.le_of_ble_eq_true rfl, Nat.le_of_ble_eq_true rfl⟩ ⟨Nat.zero_le _, Nat.zero_le _⟩ rc18 (Nat.le_of_ble_eq_true rfl) (fun r6 s7 hr6 => ?_)
    obtain ⟨er6, hr6⟩ := hr6
    exact hret _ _ _ _ dX6_need_15 (by first | (refine (Or.inl ⟨?_, ?_, ?_⟩) <;> first | omega | assumption | rfl) | (refine (Or.inr ⟨?_, ?_, ?_⟩) <;> first | omega | assumption | rfl))

set_option maxHeartbeats 4000000 in
set_option maxRecDepth 100000 in
theorem m_X6_paper {a : Nat → Nat} {n : Nat} {σ : ST} (hM : MS σ) {x y : Int} (hx : inR x) (hy : inR y) : MI yX6_paper cX6_paper 3 .int (RM 1 22) a n σ [.ref (a 18), iv x, iv y] (fun r σ1 => (((21 ≤ x ∧ x ≤ 60) ∧ (1 ≤ y ∧ y ≤ 8)) ∧ r = 1 ∧ σ1 = up2 (up2 σ 18 5 x) 18 6 y) ∨ (¬ ((21 ≤ x ∧ x ≤ 60) ∧ (1 ≤ y ∧ y ≤ 8)) ∧ r = -1000001 ∧ σ1 = fd σ 27 1)) := by
  refine MI.of (own := RX6) (by decide +kernel) rfl (Nat.le_of_ble_eq_true rfl) ?_
  intro κ C hret
  show J κ 0 0 a n σ [(0, .ref (a 18)), (1, iv x), (2, iv y)] 0 []
  obtain ⟨hb, hvn, hwt, hky, hdu, hwd, hli, hne, hse, hmk, hkd, hsh, hos, hpl, hld, hF, hlp, hpo⟩ := id hM
  refine r_iload_n C dX6_paper_0 1 rfl ?_
  refine r_bipush C dX6_paper_1 (by decide) ?_
  refine r_bipush C dX6_paper_3 (by decide) ?_
  refine r_callSB3 C dX6_paper_5 lkX6_85 (m_X6_in (by omega) (by omega) (by omega)) ⟨rfl, rfl, Nat.le_of_ble_eq_true rfl, Nat.le_of_ble_eq_true rfl⟩ ⟨Nat.zero_le _, Nat.zero_le _⟩ (Nat.le_of_ble_eq_true rfl) (fun h1 => ?_) (fun h1 => ?_)
  · skip
    refine r_if_eq (tgt := 21) C dX6_paper_8 (by decide) (by decide) (fun q => absurd q (by decide)) (fun _ => ?_)
    refine r_iload_n C dX6_paper_11 2 rfl ?_
    refine r_iconst C dX6_paper_12 ?_
    refine r_bipush C dX6_paper_13 (by decide) ?_
    refine r_callSB3 C dX6_paper_15 lkX6_85 (m_X6_in (by omega) (by omega) (by omega)) ⟨rfl, rfl, Nat.le_of_ble_eq_true rfl, Nat.le_of_ble_eq_true rfl⟩ ⟨Nat.zero_le _, Nat.zero_le _⟩ (Nat.le_of_ble_eq_true rfl) (fun h3 => ?_) (fun h3 => ?_)
    · skip
      refine r_if_ne (tgt := 27) C dX6_paper_18 (by decide) (by decide) (fun _ => ?_) (fun q => absurd q (by decide))
      refine r_aload_n C dX6_paper_27 0 rfl ?_
      refine r_iload_n C dX6_paper_28 1 rfl ?_
      refine pX6_13 C dX6_paper_29 (by omega) ?_
      refine r_aload_n C dX6_paper_32 0 rfl ?_
      refine r_iload_n C dX6_paper_33 2 rfl ?_
      refine pX6_16 C dX6_paper_34 (by omega) ?_
      refine r_iconst C dX6_paper_37 ?_
      exact hret _ _ _ _ dX6_paper_38 (by first | (refine (Or.inl ⟨?_, ?_, ?_⟩) <;> first | omega | assumption | rfl) | (refine (Or.inr ⟨?_, ?_, ?_⟩) <;> first | omega | assumption | rfl))
    · skip
      refine r_if_ne (tgt := 27) C dX6_paper_18 (by decide) (by decide) (fun q => absurd q (by decide)) (fun _ => ?_)
      refine r_aload_n C dX6_paper_21 0 rfl ?_
      refine r_iconst C dX6_paper_22 ?_
      refine r_callI1 18 C dX6_paper_23 lkX6_92 (m_X6_finds (by omega) (MS.F (by assumption) _)) ⟨rfl, rfl, Nat.le_of_ble_eq_true rfl, Nat.le_of_ble_eq_true rfl⟩ ⟨Nat.zero_le _, Nat.zero_le _⟩ rc18 (Nat.le_of_ble_eq_true rfl) (fun r6 s7 hr6 => ?_)
      obtain ⟨er6, hr6⟩ := hr6
      exact hret _ _ _ _ dX6_paper_26 (by first | (refine (Or.inl ⟨?_, ?_, ?_⟩) <;> first | omega | assumption | rfl) | (refine (Or.inr ⟨?_, ?_, ?_⟩) <;> first | omega | assumption | rfl))
  · skip
    refine r_if_eq (tgt := 21) C dX6_paper_8 (by decide) (by decide) (fun _ => ?_) (fun q => absurd q (by decide))
    refine r_aload_n C dX6_paper_21 0 rfl ?_
    refine r_iconst C dX6_paper_22 ?_
    refine r_callI1 18 C dX6_paper_23 lkX6_92 (m_X6_finds (by omega) (MS.F (by assumption) _)) ⟨rfl, rfl, Nat.le_of_ble_eq_true rfl, Nat.le_of_ble_eq_true rfl⟩ ⟨Nat.zero_le _, Nat.zero_le _⟩ rc18 (Nat.le_of_ble_eq_true rfl) (fun r9 s10 hr9 => ?_)
    obtain ⟨er9, hr9⟩ := hr9
    exact hret _ _ _ _ dX6_paper_26 (by first | (refine (Or.inl ⟨?_, ?_, ?_⟩) <;> first | omega | assumption | rfl) | (refine (Or.inr ⟨?_, ?_, ?_⟩) <;> first | omega | assumption | rfl))

set_option maxHeartbeats 4000000 in
set_option maxRecDepth 100000 in
theorem m_X6_tell {a : Nat → Nat} {n : Nat} {σ : ST} (hM : MS σ) {x : Int} (hx : inR x) : MI yX6_tell cX6_tell 2 .int (RM 1 21) a n σ [.ref (a 18), iv x] (fun r σ1 => (σ 18 2 < 40 ∧ r = σ 18 2 + 1 ∧ σ1 = up2 (up2 σ 26 (σ 18 2) x) 18 2 (σ 18 2 + 1)) ∨ (σ 18 2 = 40 ∧ r = -1000004 ∧ σ1 = fd σ 27 4)) := by
  refine MI.of (own := RX6) (by decide +kernel) rfl (Nat.le_of_ble_eq_true rfl) ?_
  intro κ C hret
  show J κ 0 0 a n σ [(0, .ref (a 18)), (1, iv x)] 0 []
  obtain ⟨hb, hvn, hwt, hky, hdu, hwd, hli, hne, hse, hmk, hkd, hsh, hos, hpl, hld, hF, hlp, hpo⟩ := id hM
  refine r_aload_n C dX6_tell_0 0 rfl ?_
  refine gX6_150 C dX6_tell_1 (fun g1 => ?_)
  refine r_bipush C dX6_tell_4 (by decide) ?_
  refine r_icmp_ne (tgt := 15) C dX6_tell_6 (by decide) (by omega) (by omega) (fun h2 => ?_) (fun h2 => ?_)
  · skip
    refine r_aload_n C dX6_tell_15 0 rfl ?_
    refine gX6_44 C dX6_tell_16 ?_
    refine r_aload_n C dX6_tell_19 0 rfl ?_
    refine gX6_150 C dX6_tell_20 (fun g4 => ?_)
    refine r_iload_n C dX6_tell_23 1 rfl ?_
    refine r_iast 40 C dX6_tell_24 (by omega) (fun _ _ => rfl) (by omega) (by omega) (by decide) (by omega) ?_
    refine r_aload_n C dX6_tell_25 0 rfl ?_
    refine r_dup C dX6_tell_26 rfl ?_
    refine gX6_150 C dX6_tell_27 (fun g5 => ?_)
    rw [up2_ne (show (18 : Nat) ≠ 26 from by decide)] at g5 ⊢
    refine r_iconst C dX6_tell_30 ?_
    refine r_iadd C dX6_tell_31 ?_
    refine pX6_150 C dX6_tell_32 (by omega) ?_
    refine r_aload_n C dX6_tell_35 0 rfl ?_
    refine gX6_150 C dX6_tell_36 (fun g6 => ?_)
    rw [up2_self] at g6 ⊢
    exact hret _ _ _ _ dX6_tell_39 (by first | (refine (Or.inl ⟨?_, ?_, ?_⟩) <;> first | omega | assumption | rfl) | (refine (Or.inr ⟨?_, ?_, ?_⟩) <;> first | omega | assumption | rfl))
  · skip
    refine r_aload_n C dX6_tell_9 0 rfl ?_
    refine r_iconst C dX6_tell_10 ?_
    refine r_callI1 18 C dX6_tell_11 lkX6_92 (m_X6_finds (by omega) (MS.F (by assumption) _)) ⟨rfl, rfl, Nat.le_of_ble_eq_true rfl, Nat.le_of_ble_eq_true rfl⟩ ⟨Nat.zero_le _, Nat.zero_le _⟩ rc18 (Nat.le_of_ble_eq_true rfl) (fun r7 s8 hr7 => ?_)
    obtain ⟨er7, hr7⟩ := hr7
    exact hret _ _ _ _ dX6_tell_14 (by first | (refine (Or.inl ⟨?_, ?_, ?_⟩) <;> first | omega | assumption | rfl) | (refine (Or.inr ⟨?_, ?_, ?_⟩) <;> first | omega | assumption | rfl))

set_option maxHeartbeats 4000000 in
set_option maxRecDepth 100000 in
theorem m_X6_found {a : Nat → Nat} {n : Nat} {σ : ST} (hM : MS σ) {k : Int} (hk : inR k) : MI yX6_found cX6_found 2 .int (RM 1 22) a n σ [.ref (a 18), iv k] (fun r σ1 => ((1 ≤ k ∧ k ≤ 5) ∧ r = σ 27 k ∧ σ1 = σ) ∨ (¬ (1 ≤ k ∧ k ≤ 5) ∧ r = -1000001 ∧ σ1 = fd σ 27 1)) := by
  refine MI.of (own := RX6) (by decide +kernel) rfl (Nat.le_of_ble_eq_true rfl) ?_
  intro κ C hret
  show J κ 0 0 a n σ [(0, .ref (a 18)), (1, iv k)] 0 []
  obtain ⟨hb, hvn, hwt, hky, hdu, hwd, hli, hne, hse, hmk, hkd, hsh, hos, hpl, hld, hF, hlp, hpo⟩ := id hM
  refine r_iload_n C dX6_found_0 1 rfl ?_
  refine r_iconst C dX6_found_1 ?_
  refine r_iconst C dX6_found_2 ?_
  refine r_callSB3 C dX6_found_3 lkX6_85 (m_X6_in (by omega) (by omega) (by omega)) ⟨rfl, rfl, Nat.le_of_ble_eq_true rfl, Nat.le_of_ble_eq_true rfl⟩ ⟨Nat.zero_le _, Nat.zero_le _⟩ (Nat.le_of_ble_eq_true rfl) (fun h1 => ?_) (fun h1 => ?_)
  · skip
    refine r_if_eq (tgt := 18) C dX6_found_6 (by decide) (by decide) (fun q => absurd q (by decide)) (fun _ => ?_)
    refine r_aload_n C dX6_found_9 0 rfl ?_
    refine gX6_47 C dX6_found_10 ?_
    refine r_iload_n C dX6_found_13 1 rfl ?_
    refine r_iald 6 C dX6_found_14 (by omega) (fun _ => rfl) (by omega) (by omega) (by decide) (fun g4 => ?_)
    refine r_goto (tgt := 23) C dX6_found_15 (by decide) ?_
    exact hret _ _ _ _ dX6_found_23 (by first | (refine (Or.inl ⟨?_, ?_, ?_⟩) <;> first | omega | assumption | rfl) | (refine (Or.inr ⟨?_, ?_, ?_⟩) <;> first | omega | assumption | rfl))
  · skip
    refine r_if_eq (tgt := 18) C dX6_found_6 (by decide) (by decide) (fun _ => ?_) (fun q => absurd q (by decide))
    refine r_aload_n C dX6_found_18 0 rfl ?_
    refine r_iconst C dX6_found_19 ?_
    refine r_callI1 18 C dX6_found_20 lkX6_92 (m_X6_finds (by omega) (MS.F (by assumption) _)) ⟨rfl, rfl, Nat.le_of_ble_eq_true rfl, Nat.le_of_ble_eq_true rfl⟩ ⟨Nat.zero_le _, Nat.zero_le _⟩ rc18 (Nat.le_of_ble_eq_true rfl) (fun r6 s7 hr6 => ?_)
    obtain ⟨er6, hr6⟩ := hr6
    exact hret _ _ _ _ dX6_found_23 (by first | (refine (Or.inl ⟨?_, ?_, ?_⟩) <;> first | omega | assumption | rfl) | (refine (Or.inr ⟨?_, ?_, ?_⟩) <;> first | omega | assumption | rfl))

set_option maxHeartbeats 4000000 in
set_option maxRecDepth 100000 in
theorem m_X6_written {a : Nat → Nat} {n : Nat} {σ : ST} (hM : MS σ) {v : Int} (hv1 : inR v) : MI yX6_written cX6_written 3 .int (RM 2 43) a n σ [.ref (a 18), iv v] (fun r σ1 => ((0 ≤ v ∧ v < σ 18 1) ∧ r = (σ 18 3 + 7 * σ 22 v + 6) % 12 - 6 ∧ σ1 = σ) ∨ (¬ (0 ≤ v ∧ v < σ 18 1) ∧ r = -1000001 ∧ σ1 = fd σ 27 1)) := by
  refine MI.of (own := RX6) (by decide +kernel) rfl (Nat.le_of_ble_eq_true rfl) ?_
  intro κ C hret
  show J κ 0 0 a n σ [(0, .ref (a 18)), (1, iv v)] 0 []
  obtain ⟨hb, hvn, hwt, hky, hdu, hwd, hli, hne, hse, hmk, hkd, hsh, hos, hpl, hld, hF, hlp, hpo⟩ := id hM
  have hshv := hsh v
  refine r_aload_n C dX6_written_0 0 rfl ?_
  refine r_iload_n C dX6_written_1 1 rfl ?_
  refine r_callB1 18 C dX6_written_2 lkX6_96 (m_X6_isVoice (by omega) (by omega)) ⟨rfl, rfl, Nat.le_of_ble_eq_true rfl, Nat.le_of_ble_eq_true rfl⟩ ⟨Nat.zero_le _, Nat.zero_le _⟩ rc18 (Nat.le_of_ble_eq_true rfl) (fun h1 => ?_) (fun h1 => ?_)
  · skip
    refine r_if_ne (tgt := 14) C dX6_written_5 (by decide) (by decide) (fun _ => ?_) (fun q => absurd q (by decide))
    refine r_aload_n C dX6_written_14 0 rfl ?_
    refine gX6_126 C dX6_written_15 (fun g3 => ?_)
    refine r_bipush C dX6_written_18 (by decide) ?_
    refine r_aload_n C dX6_written_20 0 rfl ?_
    refine gX6_32 C dX6_written_21 ?_
    refine r_iload_n C dX6_written_24 1 rfl ?_
    refine r_iald 6 C dX6_written_25 (by omega) (fun _ => rfl) (by omega) (by omega) (by decide) (fun g5 => ?_)
    refine r_imul C dX6_written_26 ?_
    refine r_iadd C dX6_written_27 ?_
    refine r_istore_n C dX6_written_28 (by decide) (fun z_ => [(2, iv z_), (0, .ref (a 18)), (1, iv v)]) (fun _ => rfl) (fun x0 ex0 => ?_)
    have lp29 : ∀ (N : Nat) (x : Int), (x + 200 : Int) < N → (-200 ≤ x ∧ x ≤ 200 ∧ (x + 6) % 12 = (σ 18 3 + 7 * σ 22 v + 6) % 12) → J κ 0 0 a n σ [(0, .ref (a 18)), (1, iv v), (2, iv x)] 29 [] := by
      intro N
      induction N with
      | zero =>
        intro x hm29 hi29
        exact absurd hm29 (by omega)
      | succ N ih29 =>
        intro x hm29 hi29
        refine r_iload_n C dX6_written_29 2 rfl ?_
        refine r_iconst C dX6_written_30 ?_
        refine r_icmp_le (tgt := 40) C dX6_written_31 (by decide) (by omega) (by omega) (fun h6 => ?_) (fun h6 => ?_)
        · skip
          have lp40 : ∀ (N : Nat) (y : Int), (5 - y : Int) < N → (-200 ≤ y ∧ y ≤ 5 ∧ (y + 6) % 12 = (σ 18 3 + 7 * σ 22 v + 6) % 12) → J κ 0 0 a n σ [(0, .ref (a 18)), (1, iv v), (2, iv y)] 40 [] := by
            intro N
            induction N with
            | zero =>
              intro y hm40 hi40
              exact absurd hm40 (by omega)
            | succ N ih40 =>
              intro y hm40 hi40
              refine r_iload_n C dX6_written_40 2 rfl ?_
              refine r_bipush C dX6_written_41 (by decide) ?_
              refine r_icmp_ge (tgt := 52) C dX6_written_43 (by decide) (by omega) (by omega) (fun h7 => ?_) (fun h7 => ?_)
              · skip
                refine r_iload_n C dX6_written_52 2 rfl ?_
                exact hret _ _ _ _ dX6_written_53 (by first | (refine (Or.inl ⟨?_, ?_, ?_⟩) <;> first | omega | assumption | rfl) | (refine (Or.inr ⟨?_, ?_, ?_⟩) <;> first | omega | assumption | rfl))
              · skip
                refine r_iinc C dX6_written_46 (by decide) 2 rfl (fun z_ => [(2, iv z_), (0, .ref (a 18)), (1, iv v)]) (fun _ => rfl) (fun y2 ey2 => ?_)
                refine r_goto (tgt := 40) C dX6_written_49 (by decide) ?_
                refine r_sub [1, 2, 0] (L' := [(0, .ref (a 18)), (1, iv v), (2, iv y2)]) rfl ?_
                exact ih40 _ (by omega) (by omega)
          refine r_sub [0, 1, 2] (L' := [(0, .ref (a 18)), (1, iv v), (2, iv x)]) rfl ?_
          exact lp40 ((5 - x : Int).toNat + 1) _ (by omega) (by omega)
        · skip
          refine r_iinc C dX6_written_34 (by decide) 2 rfl (fun z_ => [(2, iv z_), (0, .ref (a 18)), (1, iv v)]) (fun _ => rfl) (fun x2 ex2 => ?_)
          refine r_goto (tgt := 29) C dX6_written_37 (by decide) ?_
          refine r_sub [1, 2, 0] (L' := [(0, .ref (a 18)), (1, iv v), (2, iv x2)]) rfl ?_
          exact ih29 _ (by omega) (by omega)
    refine r_sub [1, 2, 0] (L' := [(0, .ref (a 18)), (1, iv v), (2, iv x0)]) rfl ?_
    exact lp29 ((σ 18 3 + 7 * σ 22 v + 200 : Int).toNat + 1) _ (by omega) (by subst ex0; omega)
  · skip
    refine r_if_ne (tgt := 14) C dX6_written_5 (by decide) (by decide) (fun q => absurd q (by decide)) (fun _ => ?_)
    refine r_aload_n C dX6_written_8 0 rfl ?_
    refine r_iconst C dX6_written_9 ?_
    refine r_callI1 18 C dX6_written_10 lkX6_92 (m_X6_finds (by omega) (MS.F (by assumption) _)) ⟨rfl, rfl, Nat.le_of_ble_eq_true rfl, Nat.le_of_ble_eq_true rfl⟩ ⟨Nat.zero_le _, Nat.zero_le _⟩ rc18 (Nat.le_of_ble_eq_true rfl) (fun r9 s10 hr9 => ?_)
    obtain ⟨er9, hr9⟩ := hr9
    exact hret _ _ _ _ dX6_written_13 (by first | (refine (Or.inl ⟨?_, ?_, ?_⟩) <;> first | omega | assumption | rfl) | (refine (Or.inr ⟨?_, ?_, ?_⟩) <;> first | omega | assumption | rfl))

def chgN (mk : Int → Int) (is fr : Int) : Nat → Int
  | 0 => 0
  | k + 1 => chgN mk is fr k + (if (3 < mk (fr + k) ↔ is = 1) then 0 else 1)
theorem chgN_s (mk : Int → Int) (is fr : Int) {b : Int} (h : fr ≤ b) : chgN mk is fr (b + 1 - fr).toNat = chgN mk is fr (b - fr).toNat + (if (3 < mk b ↔ is = 1) then 0 else 1) := by
  rw [show (b + 1 - fr).toNat = (b - fr).toNat + 1 by omega]
  show chgN mk is fr (b - fr).toNat + (if (3 < mk (fr + ((b - fr).toNat : Int)) ↔ is = 1) then 0 else 1) = _
  rw [show fr + ((b - fr).toNat : Int) = b by omega]
theorem chgN_bd (mk : Int → Int) (is fr : Int) : ∀ k : Nat, 0 ≤ chgN mk is fr k ∧ chgN mk is fr k ≤ k
  | 0 => by simp [chgN]
  | k + 1 => by
    have := chgN_bd mk is fr k
    unfold chgN
    split <;> omega
def CutI (c0 : Nat) (σ τ : ST) (is fr b ch : Int) : Prop := fr ≤ b ∧ ch = chgN (σ c0) is fr (b - fr).toNat ∧ (∀ c, c ≠ c0 → τ c = σ c) ∧ ∀ j, τ c0 j = if fr ≤ j ∧ j < b then σ c0 j % 4 + 4 * is else σ c0 j
theorem CutI.go {c0 : Nat} {σ τ : ST} {is fr b ch d : Int} (h : CutI c0 σ τ is fr b ch) (hd : d = if (3 < σ c0 b ↔ is = 1) then 0 else 1) : CutI c0 σ (up2 τ c0 b (σ c0 b % 4 + 4 * is)) is fr (b + 1) (ch + d) := by
  obtain ⟨h1, h2, h3, h4⟩ := h
  refine ⟨by omega, ?_, fun c hc => ?_, fun j => ?_⟩
  · rw [chgN_s _ _ _ h1, hd, h2]
  · rw [up2_ne hc]; exact h3 c hc
  · by_cases hj : j = b
    · subst hj; rw [up2_self, if_pos (by omega)]
    · rw [up2_at hj, h4 j]
      by_cases h5 : fr ≤ j ∧ j < b
      · rw [if_pos h5, if_pos (by omega)]
      · rw [if_neg h5, if_neg (by omega)]
theorem CutI.same {c0 : Nat} {σ τ : ST} {is fr b ch : Int} (h : CutI c0 σ τ is fr b ch) : τ c0 b = σ c0 b := by
  rw [h.2.2.2 b, if_neg (by omega)]
set_option maxHeartbeats 4000000 in
set_option maxRecDepth 100000 in
theorem m_X6_cut {a : Nat → Nat} {n : Nat} {σ : ST} (hM : MS σ) {x y z : Int} (hx : inR x) (hy : inR y) (hz : inR z) : MI yX6_cut cX6_cut 6 .int (RM 2 43) a n σ [.ref (a 18), iv x, iv y, iv z] (fun r σ1 => (((0 ≤ x ∧ x < σ 18 0) ∧ (0 ≤ y ∧ y < σ 18 0) ∧ x ≤ y ∧ 0 ≤ z ∧ z ≤ 1) ∧ CutI 20 σ σ1 z x (y + 1) r) ∨ (¬ ((0 ≤ x ∧ x < σ 18 0) ∧ (0 ≤ y ∧ y < σ 18 0) ∧ x ≤ y ∧ 0 ≤ z ∧ z ≤ 1) ∧ r = -1000001 ∧ σ1 = fd σ 27 1)) := by
  refine MI.of (own := RX6) (by decide +kernel) rfl (Nat.le_of_ble_eq_true rfl) ?_
  intro κ C hret
  show J κ 0 0 a n σ [(0, .ref (a 18)), (1, iv x), (2, iv y), (3, iv z)] 0 []
  obtain ⟨hb, hvn, hwt, hky, hdu, hwd, hli, hne, hse, hmk, hkd, hsh, hos, hpl, hld, hF, hlp, hpo⟩ := id hM
  refine r_aload_n C dX6_cut_0 0 rfl ?_
  refine r_iload_n C dX6_cut_1 1 rfl ?_
  refine r_callB1 18 C dX6_cut_2 lkX6_100 (m_X6_isBar (by omega) (by omega)) ⟨rfl, rfl, Nat.le_of_ble_eq_true rfl, Nat.le_of_ble_eq_true rfl⟩ ⟨Nat.zero_le _, Nat.zero_le _⟩ rc18 (Nat.le_of_ble_eq_true rfl) (fun h1 => ?_) (fun h1 => ?_)
  · skip
    refine r_if_eq (tgt := 30) C dX6_cut_5 (by decide) (by decide) (fun q => absurd q (by decide)) (fun _ => ?_)
    refine r_aload_n C dX6_cut_8 0 rfl ?_
    refine r_iload_n C dX6_cut_9 2 rfl ?_
    refine r_callB1 18 C dX6_cut_10 lkX6_100 (m_X6_isBar (by omega) (by omega)) ⟨rfl, rfl, Nat.le_of_ble_eq_true rfl, Nat.le_of_ble_eq_true rfl⟩ ⟨Nat.zero_le _, Nat.zero_le _⟩ rc18 (Nat.le_of_ble_eq_true rfl) (fun h3 => ?_) (fun h3 => ?_)
    · skip
      refine r_if_eq (tgt := 30) C dX6_cut_13 (by decide) (by decide) (fun q => absurd q (by decide)) (fun _ => ?_)
      refine r_iload_n C dX6_cut_16 1 rfl ?_
      refine r_iload_n C dX6_cut_17 2 rfl ?_
      refine r_icmp_gt (tgt := 30) C dX6_cut_18 (by decide) (by omega) (by omega) (fun h5 => ?_) (fun h5 => ?_)
      · skip
        refine r_aload_n C dX6_cut_30 0 rfl ?_
        refine r_iconst C dX6_cut_31 ?_
        refine r_callI1 18 C dX6_cut_32 lkX6_92 (m_X6_finds (by omega) (MS.F (by assumption) _)) ⟨rfl, rfl, Nat.le_of_ble_eq_true rfl, Nat.le_of_ble_eq_true rfl⟩ ⟨Nat.zero_le _, Nat.zero_le _⟩ rc18 (Nat.le_of_ble_eq_true rfl) (fun r6 s7 hr6 => ?_)
        obtain ⟨er6, hr6⟩ := hr6
        exact hret _ _ _ _ dX6_cut_35 (by first | (refine (Or.inl ⟨?_, ?_⟩) <;> first | omega | (rw [show y + 1 = b by omega]; exact hi42.1)) | (refine (Or.inr ⟨?_, ?_, ?_⟩) <;> first | omega | assumption))
      · skip
        refine r_iload_n C dX6_cut_21 3 rfl ?_
        refine r_iconst C dX6_cut_22 ?_
        refine r_iconst C dX6_cut_23 ?_
        refine r_callSB3 C dX6_cut_24 lkX6_85 (m_X6_in (by omega) (by omega) (by omega)) ⟨rfl, rfl, Nat.le_of_ble_eq_true rfl, Nat.le_of_ble_eq_true rfl⟩ ⟨Nat.zero_le _, Nat.zero_le _⟩ (Nat.le_of_ble_eq_true rfl) (fun h8 => ?_) (fun h8 => ?_)
        · skip
          refine r_if_ne (tgt := 36) C dX6_cut_27 (by decide) (by decide) (fun _ => ?_) (fun q => absurd q (by decide))
          refine r_iconst C dX6_cut_36 ?_
          refine r_istore C dX6_cut_37 (by decide) (fun z_ => [(4, iv z_), (0, .ref (a 18)), (1, iv x), (2, iv y), (3, iv z)]) (fun _ => rfl) (fun c0 ec0 => ?_)
          refine r_iload_n C dX6_cut_39 2 rfl ?_
          refine r_istore C dX6_cut_40 (by decide) (fun z_ => [(5, iv z_), (4, iv c0), (0, .ref (a 18)), (1, iv x), (2, iv y), (3, iv z)]) (fun _ => rfl) (fun b0 eb0 => ?_)
          have lp42 : ∀ (N : Nat) (ch : Int) (b : Int) (τ : ST), (y + 1 - b : Int) < N → (CutI 20 σ τ z x b ch ∧ b ≤ y + 1) → J κ 0 0 a n τ [(0, .ref (a 18)), (1, iv x), (2, iv y), (3, iv z), (4, iv ch), (5, iv b)] 42 [] := by
            intro N
            induction N with
            | zero =>
              intro ch b τ hm42 hi42
              exact absurd hm42 (by omega)
            | succ N ih42 =>
              intro ch b τ hm42 hi42
              have hb0 := hi42.1.1
              have hcb := chgN_bd (σ 20) z x (b - x).toNat
              have hce := hi42.1.2.1
              have hsm := hi42.1.same
              have hmb := hmk b
              have e18 := hi42.1.2.2.1 18 (by decide)
              refine r_iload C dX6_cut_42 5 rfl ?_
              refine r_iload_n C dX6_cut_44 2 rfl ?_
              refine r_icmp_gt (tgt := 103) C dX6_cut_45 (by decide) (by omega) (by omega) (fun h10 => ?_) (fun h10 => ?_)
              · skip
                refine r_iload C dX6_cut_103 4 rfl ?_
                exact hret _ _ _ _ dX6_cut_105 (by first | (refine (Or.inl ⟨?_, ?_⟩) <;> first | omega | (rw [show y + 1 = b by omega]; exact hi42.1)) | (refine (Or.inr ⟨?_, ?_, ?_⟩) <;> first | omega | assumption))
              · skip
                refine r_iload C dX6_cut_48 4 rfl ?_
                refine r_aload_n C dX6_cut_50 0 rfl ?_
                refine r_iload C dX6_cut_51 5 rfl ?_
                refine r_callB1 18 C dX6_cut_53 lkX6_103 (m_X6_isCut (by omega)) ⟨rfl, rfl, Nat.le_of_ble_eq_true rfl, Nat.le_of_ble_eq_true rfl⟩ ⟨Nat.zero_le _, Nat.zero_le _⟩ rc18 (Nat.le_of_ble_eq_true rfl) (fun hc => ?_) (fun hc => ?_)
                · skip
                  refine r_iload_n C dX6_cut_56 3 rfl ?_
                  refine r_iconst C dX6_cut_57 ?_
                  refine r_icmp_ne (tgt := 65) C dX6_cut_58 (by decide) (by omega) (by omega) (fun h11 => ?_) (fun h11 => ?_)
                  · skip
                    refine r_iconst C dX6_cut_65 ?_
                    refine r_icmp_eq (tgt := 73) C dX6_cut_66 (by decide) (by decide) (by decide) (fun q => absurd q (by decide)) (fun _ => ?_)
                    refine r_iconst C dX6_cut_69 ?_
                    refine r_goto (tgt := 74) C dX6_cut_70 (by decide) ?_
                    refine r_iadd C dX6_cut_74 ?_
                    refine r_istore C dX6_cut_75 (by decide) (fun z_ => [(4, iv z_), (0, .ref (a 18)), (1, iv x), (2, iv y), (3, iv z), (5, iv b)]) (fun _ => rfl) (fun c2 ec2 => ?_)
                    refine r_aload_n C dX6_cut_77 1 rfl ?_
                    refine gX6_26 C dX6_cut_78 ?_
                    refine r_iload C dX6_cut_81 5 rfl ?_
                    refine r_aload_n C dX6_cut_83 1 rfl ?_
                    refine gX6_26 C dX6_cut_84 ?_
                    refine r_iload C dX6_cut_87 5 rfl ?_
                    refine r_iald 40 C dX6_cut_89 (by omega) (fun _ => rfl) (by omega) (by omega) (by decide) (fun g15 => ?_)
                    refine r_iconst C dX6_cut_90 ?_
                    refine r_iand C dX6_cut_91 ?_
                    rw [hsm, iand_3 hmb]
                    refine r_iconst C dX6_cut_92 ?_
                    refine r_iload_n C dX6_cut_93 4 rfl ?_
                    refine r_imul C dX6_cut_94 ?_
                    refine r_iadd C dX6_cut_95 ?_
                    refine r_iast 40 C dX6_cut_96 (by omega) (fun _ _ => rfl) (by omega) (by omega) (by decide) (by omega) ?_
                    refine r_iinc C dX6_cut_97 (by decide) 5 rfl (fun z_ => [(5, iv z_), (4, iv c2), (0, .ref (a 18)), (1, iv x), (2, iv y), (3, iv z)]) (fun _ => rfl) (fun b2 eb2 => ?_)
                    refine r_goto (tgt := 42) C dX6_cut_100 (by decide) ?_
                    refine r_sub [2, 3, 4, 5, 1, 0] (L' := [(0, .ref (a 18)), (1, iv x), (2, iv y), (3, iv z), (4, iv c2), (5, iv b2)]) rfl ?_
                    exact ih42 _ _ _ (by omega) (by subst eb2; subst ec2; refine ⟨?_, by omega⟩; exact hi42.1.go (by first | rw [if_pos (by omega)] | rw [if_neg (by omega)]))
                  · skip
                    refine r_iconst C dX6_cut_61 ?_
                    refine r_goto (tgt := 66) C dX6_cut_62 (by decide) ?_
                    refine r_icmp_eq (tgt := 73) C dX6_cut_66 (by decide) (by decide) (by decide) (fun _ => ?_) (fun q => absurd q (by decide))
                    refine r_iconst C dX6_cut_73 ?_
                    refine r_iadd C dX6_cut_74 ?_
                    refine r_istore C dX6_cut_75 (by decide) (fun z_ => [(4, iv z_), (0, .ref (a 18)), (1, iv x), (2, iv y), (3, iv z), (5, iv b)]) (fun _ => rfl) (fun c2 ec2 => ?_)
                    refine r_aload_n C dX6_cut_77 1 rfl ?_
                    refine gX6_26 C dX6_cut_78 ?_
                    refine r_iload C dX6_cut_81 5 rfl ?_
                    refine r_aload_n C dX6_cut_83 1 rfl ?_
                    refine gX6_26 C dX6_cut_84 ?_
                    refine r_iload C dX6_cut_87 5 rfl ?_
                    refine r_iald 40 C dX6_cut_89 (by omega) (fun _ => rfl) (by omega) (by omega) (by decide) (fun g19 => ?_)
                    refine r_iconst C dX6_cut_90 ?_
                    refine r_iand C dX6_cut_91 ?_
                    rw [hsm, iand_3 hmb]
                    refine r_iconst C dX6_cut_92 ?_
                    refine r_iload_n C dX6_cut_93 4 rfl ?_
                    refine r_imul C dX6_cut_94 ?_
                    refine r_iadd C dX6_cut_95 ?_
                    refine r_iast 40 C dX6_cut_96 (by omega) (fun _ _ => rfl) (by omega) (by omega) (by decide) (by omega) ?_
                    refine r_iinc C dX6_cut_97 (by decide) 5 rfl (fun z_ => [(5, iv z_), (4, iv c2), (0, .ref (a 18)), (1, iv x), (2, iv y), (3, iv z)]) (fun _ => rfl) (fun b2 eb2 => ?_)
                    refine r_goto (tgt := 42) C dX6_cut_100 (by decide) ?_
                    refine r_sub [2, 3, 4, 5, 1, 0] (L' := [(0, .ref (a 18)), (1, iv x), (2, iv y), (3, iv z), (4, iv c2), (5, iv b2)]) rfl ?_
                    exact ih42 _ _ _ (by omega) (by subst eb2; subst ec2; refine ⟨?_, by omega⟩; exact hi42.1.go (by first | rw [if_pos (by omega)] | rw [if_neg (by omega)]))
                · skip
                  refine r_iload_n C dX6_cut_56 3 rfl ?_
                  refine r_iconst C dX6_cut_57 ?_
                  refine r_icmp_ne (tgt := 65) C dX6_cut_58 (by decide) (by omega) (by omega) (fun h20 => ?_) (fun h20 => ?_)
                  · skip
                    refine r_iconst C dX6_cut_65 ?_
                    refine r_icmp_eq (tgt := 73) C dX6_cut_66 (by decide) (by decide) (by decide) (fun _ => ?_) (fun q => absurd q (by decide))
                    refine r_iconst C dX6_cut_73 ?_
                    refine r_iadd C dX6_cut_74 ?_
                    refine r_istore C dX6_cut_75 (by decide) (fun z_ => [(4, iv z_), (0, .ref (a 18)), (1, iv x), (2, iv y), (3, iv z), (5, iv b)]) (fun _ => rfl) (fun c2 ec2 => ?_)
                    refine r_aload_n C dX6_cut_77 1 rfl ?_
                    refine gX6_26 C dX6_cut_78 ?_
                    refine r_iload C dX6_cut_81 5 rfl ?_
                    refine r_aload_n C dX6_cut_83 1 rfl ?_
                    refine gX6_26 C dX6_cut_84 ?_
                    refine r_iload C dX6_cut_87 5 rfl ?_
                    refine r_iald 40 C dX6_cut_89 (by omega) (fun _ => rfl) (by omega) (by omega) (by decide) (fun g24 => ?_)
                    refine r_iconst C dX6_cut_90 ?_
                    refine r_iand C dX6_cut_91 ?_
                    rw [hsm, iand_3 hmb]
                    refine r_iconst C dX6_cut_92 ?_
                    refine r_iload_n C dX6_cut_93 4 rfl ?_
                    refine r_imul C dX6_cut_94 ?_
                    refine r_iadd C dX6_cut_95 ?_
                    refine r_iast 40 C dX6_cut_96 (by omega) (fun _ _ => rfl) (by omega) (by omega) (by decide) (by omega) ?_
                    refine r_iinc C dX6_cut_97 (by decide) 5 rfl (fun z_ => [(5, iv z_), (4, iv c2), (0, .ref (a 18)), (1, iv x), (2, iv y), (3, iv z)]) (fun _ => rfl) (fun b2 eb2 => ?_)
                    refine r_goto (tgt := 42) C dX6_cut_100 (by decide) ?_
                    refine r_sub [2, 3, 4, 5, 1, 0] (L' := [(0, .ref (a 18)), (1, iv x), (2, iv y), (3, iv z), (4, iv c2), (5, iv b2)]) rfl ?_
                    exact ih42 _ _ _ (by omega) (by subst eb2; subst ec2; refine ⟨?_, by omega⟩; exact hi42.1.go (by first | rw [if_pos (by omega)] | rw [if_neg (by omega)]))
                  · skip
                    refine r_iconst C dX6_cut_61 ?_
                    refine r_goto (tgt := 66) C dX6_cut_62 (by decide) ?_
                    refine r_icmp_eq (tgt := 73) C dX6_cut_66 (by decide) (by decide) (by decide) (fun q => absurd q (by decide)) (fun _ => ?_)
                    refine r_iconst C dX6_cut_69 ?_
                    refine r_goto (tgt := 74) C dX6_cut_70 (by decide) ?_
                    refine r_iadd C dX6_cut_74 ?_
                    refine r_istore C dX6_cut_75 (by decide) (fun z_ => [(4, iv z_), (0, .ref (a 18)), (1, iv x), (2, iv y), (3, iv z), (5, iv b)]) (fun _ => rfl) (fun c2 ec2 => ?_)
                    refine r_aload_n C dX6_cut_77 1 rfl ?_
                    refine gX6_26 C dX6_cut_78 ?_
                    refine r_iload C dX6_cut_81 5 rfl ?_
                    refine r_aload_n C dX6_cut_83 1 rfl ?_
                    refine gX6_26 C dX6_cut_84 ?_
                    refine r_iload C dX6_cut_87 5 rfl ?_
                    refine r_iald 40 C dX6_cut_89 (by omega) (fun _ => rfl) (by omega) (by omega) (by decide) (fun g28 => ?_)
                    refine r_iconst C dX6_cut_90 ?_
                    refine r_iand C dX6_cut_91 ?_
                    rw [hsm, iand_3 hmb]
                    refine r_iconst C dX6_cut_92 ?_
                    refine r_iload_n C dX6_cut_93 4 rfl ?_
                    refine r_imul C dX6_cut_94 ?_
                    refine r_iadd C dX6_cut_95 ?_
                    refine r_iast 40 C dX6_cut_96 (by omega) (fun _ _ => rfl) (by omega) (by omega) (by decide) (by omega) ?_
                    refine r_iinc C dX6_cut_97 (by decide) 5 rfl (fun z_ => [(5, iv z_), (4, iv c2), (0, .ref (a 18)), (1, iv x), (2, iv y), (3, iv z)]) (fun _ => rfl) (fun b2 eb2 => ?_)
                    refine r_goto (tgt := 42) C dX6_cut_100 (by decide) ?_
                    refine r_sub [2, 3, 4, 5, 1, 0] (L' := [(0, .ref (a 18)), (1, iv x), (2, iv y), (3, iv z), (4, iv c2), (5, iv b2)]) rfl ?_
                    exact ih42 _ _ _ (by omega) (by subst eb2; subst ec2; refine ⟨?_, by omega⟩; exact hi42.1.go (by first | rw [if_pos (by omega)] | rw [if_neg (by omega)]))
          refine r_sub [2, 3, 4, 5, 1, 0] (L' := [(0, .ref (a 18)), (1, iv x), (2, iv y), (3, iv z), (4, iv c0), (5, iv b0)]) rfl ?_
          exact lp42 ((y + 1 - x : Int).toNat + 1) _ _ _ (by omega) (by subst eb0; subst ec0; exact ⟨⟨by omega, by simp [chgN], fun _ _ => rfl, fun j => by rw [if_neg (by omega)]⟩, by omega⟩)
        · skip
          refine r_if_ne (tgt := 36) C dX6_cut_27 (by decide) (by decide) (fun q => absurd q (by decide)) (fun _ => ?_)
          refine r_aload_n C dX6_cut_30 0 rfl ?_
          refine r_iconst C dX6_cut_31 ?_
          refine r_callI1 18 C dX6_cut_32 lkX6_92 (m_X6_finds (by omega) (MS.F (by assumption) _)) ⟨rfl, rfl, Nat.le_of_ble_eq_true rfl, Nat.le_of_ble_eq_true rfl⟩ ⟨Nat.zero_le _, Nat.zero_le _⟩ rc18 (Nat.le_of_ble_eq_true rfl) (fun r30 s31 hr30 => ?_)
          obtain ⟨er30, hr30⟩ := hr30
          exact hret _ _ _ _ dX6_cut_35 (by first | (refine (Or.inl ⟨?_, ?_⟩) <;> first | omega | (rw [show y + 1 = b by omega]; exact hi42.1)) | (refine (Or.inr ⟨?_, ?_, ?_⟩) <;> first | omega | assumption))
    · skip
      refine r_if_eq (tgt := 30) C dX6_cut_13 (by decide) (by decide) (fun _ => ?_) (fun q => absurd q (by decide))
      refine r_aload_n C dX6_cut_30 0 rfl ?_
      refine r_iconst C dX6_cut_31 ?_
      refine r_callI1 18 C dX6_cut_32 lkX6_92 (m_X6_finds (by omega) (MS.F (by assumption) _)) ⟨rfl, rfl, Nat.le_of_ble_eq_true rfl, Nat.le_of_ble_eq_true rfl⟩ ⟨Nat.zero_le _, Nat.zero_le _⟩ rc18 (Nat.le_of_ble_eq_true rfl) (fun r33 s34 hr33 => ?_)
      obtain ⟨er33, hr33⟩ := hr33
      exact hret _ _ _ _ dX6_cut_35 (by first | (refine (Or.inl ⟨?_, ?_⟩) <;> first | omega | (rw [show y + 1 = b by omega]; exact hi42.1)) | (refine (Or.inr ⟨?_, ?_, ?_⟩) <;> first | omega | assumption))
  · skip
    refine r_if_eq (tgt := 30) C dX6_cut_5 (by decide) (by decide) (fun _ => ?_) (fun q => absurd q (by decide))
    refine r_aload_n C dX6_cut_30 0 rfl ?_
    refine r_iconst C dX6_cut_31 ?_
    refine r_callI1 18 C dX6_cut_32 lkX6_92 (m_X6_finds (by omega) (MS.F (by assumption) _)) ⟨rfl, rfl, Nat.le_of_ble_eq_true rfl, Nat.le_of_ble_eq_true rfl⟩ ⟨Nat.zero_le _, Nat.zero_le _⟩ rc18 (Nat.le_of_ble_eq_true rfl) (fun r36 s37 hr36 => ?_)
    obtain ⟨er36, hr36⟩ := hr36
    exact hret _ _ _ _ dX6_cut_35 (by first | (refine (Or.inl ⟨?_, ?_⟩) <;> first | omega | (rw [show y + 1 = b by omega]; exact hi42.1)) | (refine (Or.inr ⟨?_, ?_, ?_⟩) <;> first | omega | assumption))

def secN (mk S : Int → Int) : Nat → Int
  | 0 => 0
  | b + 1 => secN mk S b + (if mk b ≤ 3 then S b else 0)
theorem secN_s (mk S : Int → Int) {b : Int} (h : 0 ≤ b) : secN mk S (b + 1).toNat = secN mk S b.toNat + (if mk b ≤ 3 then S b else 0) := by
  rw [show (b + 1).toNat = b.toNat + 1 by omega]
  show secN mk S b.toNat + (if mk (b.toNat : Int) ≤ 3 then S (b.toNat : Int) else 0) = _
  rw [show ((b.toNat : Nat) : Int) = b by omega]
theorem secN_bd (mk S : Int → Int) (hS : ∀ i, 0 ≤ S i ∧ S i ≤ 60) : ∀ b : Nat, 0 ≤ secN mk S b ∧ secN mk S b ≤ 60 * b
  | 0 => by simp [secN]
  | b + 1 => by
    have := secN_bd mk S hS b
    have h2 := hS b
    unfold secN
    split <;> omega
def laidN (lp : Int → Int) : Nat → Int
  | 0 => 0
  | b + 1 => laidN lp b + (if 0 < lp b then 1 else 0)
theorem laidN_s (lp : Int → Int) {b : Int} (h : 0 ≤ b) : laidN lp (b + 1).toNat = laidN lp b.toNat + (if 0 < lp b then 1 else 0) := by
  rw [show (b + 1).toNat = b.toNat + 1 by omega]
  show laidN lp b.toNat + (if 0 < lp (b.toNat : Int) then 1 else 0) = _
  rw [show ((b.toNat : Nat) : Int) = b by omega]
theorem laidN_bd (lp : Int → Int) : ∀ b : Nat, 0 ≤ laidN lp b ∧ laidN lp b ≤ b
  | 0 => by simp [laidN]
  | b + 1 => by
    have := laidN_bd lp b
    unfold laidN
    split <;> omega
set_option maxHeartbeats 4000000 in
set_option maxRecDepth 100000 in
theorem m_X6_count {a : Nat → Nat} {n : Nat} {σ : ST} (hM : MS σ) {w : Int} (hw : inR w) : MI yX6_count cX6_count 4 .int (RM 1 21) a n σ [.ref (a 18), iv w] (fun r σ1 => (w = 0 ∧ r = σ 18 0 ∧ σ1 = σ) ∨ (w = 1 ∧ r = σ 18 1 ∧ σ1 = σ) ∨ (w = 2 ∧ r = σ 18 0 - cntN (σ 20) (σ 18 0).toNat ∧ σ1 = σ) ∨ (w = 3 ∧ r = secN (σ 20) (σ 19) (σ 18 0).toNat ∧ σ1 = σ) ∨ (w = 4 ∧ r = σ 18 2 ∧ σ1 = σ) ∨ (w = 5 ∧ r = laidN (σ 32) (σ 18 1).toNat ∧ σ1 = σ) ∨ (¬ (0 ≤ w ∧ w ≤ 5) ∧ r = -1000001 ∧ σ1 = fd σ 27 1)) := by
  refine MI.of (own := RX6) (by decide +kernel) rfl (Nat.le_of_ble_eq_true rfl) ?_
  intro κ C hret
  show J κ 0 0 a n σ [(0, .ref (a 18)), (1, iv w)] 0 []
  obtain ⟨hb, hvn, hwt, hky, hdu, hwd, hli, hne, hse, hmk, hkd, hsh, hos, hpl, hld, hF, hlp, hpo⟩ := id hM
  refine r_iconst C dX6_count_0 ?_
  refine r_istore_n C dX6_count_1 (by decide) (fun z_ => [(2, iv z_), (0, .ref (a 18)), (1, iv w)]) (fun _ => rfl) (fun s0 es0 => ?_)
  refine r_iload_n C dX6_count_2 2 rfl ?_
  rcases (show w = 0 ∨ w = 1 ∨ w = 2 ∨ w = 3 ∨ w = 4 ∨ w = 5 ∨ (w < 0 ∨ 5 < w) by omega) with rfl | rfl | rfl | rfl | rfl | rfl | hsw
  · skip
    refine r_tIn (off := 37) (tgt := 40) C dX6_count_3 (by omega) (by decide) (by decide) rfl (by decide) ?_
    refine r_aload_n C dX6_count_40 1 rfl ?_
    refine gX6_82 C dX6_count_41 (fun g1 => ?_)
    exact hret _ _ _ _ dX6_count_44 (by first | (refine (Or.inl ⟨?_, ?_, ?_⟩) <;> first | omega | assumption | rfl) | (refine (Or.inr (Or.inl ⟨?_, ?_, ?_⟩)) <;> first | omega | assumption | rfl) | (refine (Or.inr (Or.inr (Or.inl ⟨?_, ?_, ?_⟩))) <;> first | omega | assumption | rfl) | (refine (Or.inr (Or.inr (Or.inr (Or.inl ⟨?_, ?_, ?_⟩)))) <;> first | omega | assumption | rfl) | (refine (Or.inr (Or.inr (Or.inr (Or.inr (Or.inl ⟨?_, ?_, ?_⟩))))) <;> first | omega | assumption | rfl) | (refine (Or.inr (Or.inr (Or.inr (Or.inr (Or.inr (Or.inl ⟨?_, ?_, ?_⟩)))))) <;> first | omega | assumption | rfl) | (refine (Or.inr (Or.inr (Or.inr (Or.inr (Or.inr (Or.inr ⟨?_, ?_, ?_⟩)))))) <;> first | omega | assumption | rfl) | (obtain ⟨-, hb9, he9⟩ := hi52; refine (Or.inr (Or.inr (Or.inl ⟨?_, ?_, ?_⟩))) <;> first | omega | rfl | (rw [he9, show b = σ 18 0 by omega])) | (obtain ⟨-, hb9, he9⟩ := hi86; refine (Or.inr (Or.inr (Or.inr (Or.inl ⟨?_, ?_, ?_⟩)))) <;> first | omega | rfl | (rw [he9, show b = σ 18 0 by omega])) | (obtain ⟨-, hb9, he9⟩ := hi130; refine (Or.inr (Or.inr (Or.inr (Or.inr (Or.inr (Or.inl ⟨?_, ?_, ?_⟩)))))) <;> first | omega | rfl | (rw [he9, show b = σ 18 1 by omega])))
  · skip
    refine r_tIn (off := 42) (tgt := 45) C dX6_count_3 (by omega) (by decide) (by decide) rfl (by decide) ?_
    refine r_aload_n C dX6_count_45 1 rfl ?_
    refine gX6_89 C dX6_count_46 (fun g2 => ?_)
    exact hret _ _ _ _ dX6_count_49 (by first | (refine (Or.inl ⟨?_, ?_, ?_⟩) <;> first | omega | assumption | rfl) | (refine (Or.inr (Or.inl ⟨?_, ?_, ?_⟩)) <;> first | omega | assumption | rfl) | (refine (Or.inr (Or.inr (Or.inl ⟨?_, ?_, ?_⟩))) <;> first | omega | assumption | rfl) | (refine (Or.inr (Or.inr (Or.inr (Or.inl ⟨?_, ?_, ?_⟩)))) <;> first | omega | assumption | rfl) | (refine (Or.inr (Or.inr (Or.inr (Or.inr (Or.inl ⟨?_, ?_, ?_⟩))))) <;> first | omega | assumption | rfl) | (refine (Or.inr (Or.inr (Or.inr (Or.inr (Or.inr (Or.inl ⟨?_, ?_, ?_⟩)))))) <;> first | omega | assumption | rfl) | (refine (Or.inr (Or.inr (Or.inr (Or.inr (Or.inr (Or.inr ⟨?_, ?_, ?_⟩)))))) <;> first | omega | assumption | rfl) | (obtain ⟨-, hb9, he9⟩ := hi52; refine (Or.inr (Or.inr (Or.inl ⟨?_, ?_, ?_⟩))) <;> first | omega | rfl | (rw [he9, show b = σ 18 0 by omega])) | (obtain ⟨-, hb9, he9⟩ := hi86; refine (Or.inr (Or.inr (Or.inr (Or.inl ⟨?_, ?_, ?_⟩)))) <;> first | omega | rfl | (rw [he9, show b = σ 18 0 by omega])) | (obtain ⟨-, hb9, he9⟩ := hi130; refine (Or.inr (Or.inr (Or.inr (Or.inr (Or.inr (Or.inl ⟨?_, ?_, ?_⟩)))))) <;> first | omega | rfl | (rw [he9, show b = σ 18 1 by omega])))
  · skip
    refine r_tIn (off := 47) (tgt := 50) C dX6_count_3 (by omega) (by decide) (by decide) rfl (by decide) ?_
    refine r_iconst C dX6_count_50 ?_
    refine r_istore_n C dX6_count_51 (by decide) (fun z_ => [(3, iv z_), (2, iv s0), (0, .ref (a 18)), (1, iv 2)]) (fun _ => rfl) (fun b52 eb52 => ?_)
    have lp52 : ∀ (N : Nat) (su : Int) (b : Int), (σ 18 0 - b : Int) < N → (0 ≤ b ∧ b ≤ σ 18 0 ∧ su = b - cntN (σ 20) b.toNat) → J κ 0 0 a n σ [(0, .ref (a 18)), (1, iv 2), (2, iv su), (3, iv b)] 52 [] := by
      intro N
      induction N with
      | zero =>
        intro su b hm52 hi52
        exact absurd hm52 (by omega)
      | succ N ih52 =>
        intro su b hm52 hi52
        have hbd := cntN_bd (σ 20) b.toNat
        refine r_iload_n C dX6_count_52 3 rfl ?_
        refine r_aload_n C dX6_count_53 0 rfl ?_
        refine gX6_82 C dX6_count_54 (fun g3 => ?_)
        refine r_icmp_ge (tgt := 82) C dX6_count_57 (by decide) (by omega) (by omega) (fun h4 => ?_) (fun h4 => ?_)
        · skip
          refine r_iload_n C dX6_count_82 2 rfl ?_
          exact hret _ _ _ _ dX6_count_83 (by first | (refine (Or.inl ⟨?_, ?_, ?_⟩) <;> first | omega | assumption | rfl) | (refine (Or.inr (Or.inl ⟨?_, ?_, ?_⟩)) <;> first | omega | assumption | rfl) | (refine (Or.inr (Or.inr (Or.inl ⟨?_, ?_, ?_⟩))) <;> first | omega | assumption | rfl) | (refine (Or.inr (Or.inr (Or.inr (Or.inl ⟨?_, ?_, ?_⟩)))) <;> first | omega | assumption | rfl) | (refine (Or.inr (Or.inr (Or.inr (Or.inr (Or.inl ⟨?_, ?_, ?_⟩))))) <;> first | omega | assumption | rfl) | (refine (Or.inr (Or.inr (Or.inr (Or.inr (Or.inr (Or.inl ⟨?_, ?_, ?_⟩)))))) <;> first | omega | assumption | rfl) | (refine (Or.inr (Or.inr (Or.inr (Or.inr (Or.inr (Or.inr ⟨?_, ?_, ?_⟩)))))) <;> first | omega | assumption | rfl) | (obtain ⟨-, hb9, he9⟩ := hi52; refine (Or.inr (Or.inr (Or.inl ⟨?_, ?_, ?_⟩))) <;> first | omega | rfl | (rw [he9, show b = σ 18 0 by omega])) | (obtain ⟨-, hb9, he9⟩ := hi86; refine (Or.inr (Or.inr (Or.inr (Or.inl ⟨?_, ?_, ?_⟩)))) <;> first | omega | rfl | (rw [he9, show b = σ 18 0 by omega])) | (obtain ⟨-, hb9, he9⟩ := hi130; refine (Or.inr (Or.inr (Or.inr (Or.inr (Or.inr (Or.inl ⟨?_, ?_, ?_⟩)))))) <;> first | omega | rfl | (rw [he9, show b = σ 18 1 by omega])))
        · skip
          refine r_iload_n C dX6_count_60 2 rfl ?_
          refine r_aload_n C dX6_count_61 0 rfl ?_
          refine r_iload_n C dX6_count_62 3 rfl ?_
          refine r_callB1 18 C dX6_count_63 lkX6_103 (m_X6_isCut (by omega)) ⟨rfl, rfl, Nat.le_of_ble_eq_true rfl, Nat.le_of_ble_eq_true rfl⟩ ⟨Nat.zero_le _, Nat.zero_le _⟩ rc18 (Nat.le_of_ble_eq_true rfl) (fun hc => ?_) (fun hc => ?_)
          · skip
            refine r_if_eq (tgt := 73) C dX6_count_66 (by decide) (by decide) (fun q => absurd q (by decide)) (fun _ => ?_)
            refine r_iconst C dX6_count_69 ?_
            refine r_goto (tgt := 74) C dX6_count_70 (by decide) ?_
            refine r_iadd C dX6_count_74 ?_
            refine r_istore_n C dX6_count_75 (by decide) (fun z_ => [(2, iv z_), (0, .ref (a 18)), (1, iv 2), (3, iv b)]) (fun _ => rfl) (fun s2 es2 => ?_)
            refine r_iinc C dX6_count_76 (by decide) 3 rfl (fun z_ => [(3, iv z_), (2, iv s2), (0, .ref (a 18)), (1, iv 2)]) (fun _ => rfl) (fun c2 ec2 => ?_)
            refine r_goto (tgt := 52) C dX6_count_79 (by decide) ?_
            refine r_sub [2, 3, 1, 0] (L' := [(0, .ref (a 18)), (1, iv 2), (2, iv s2), (3, iv c2)]) rfl ?_
            exact ih52 _ _ (by omega) (by subst ec2; subst es2; refine ⟨by omega, by omega, ?_⟩; rw [cntN_s _ (by omega)]; first | (rw [if_pos (by omega)]; omega) | (rw [if_neg (by omega)]; omega))
          · skip
            refine r_if_eq (tgt := 73) C dX6_count_66 (by decide) (by decide) (fun _ => ?_) (fun q => absurd q (by decide))
            refine r_iconst C dX6_count_73 ?_
            refine r_iadd C dX6_count_74 ?_
            refine r_istore_n C dX6_count_75 (by decide) (fun z_ => [(2, iv z_), (0, .ref (a 18)), (1, iv 2), (3, iv b)]) (fun _ => rfl) (fun s2 es2 => ?_)
            refine r_iinc C dX6_count_76 (by decide) 3 rfl (fun z_ => [(3, iv z_), (2, iv s2), (0, .ref (a 18)), (1, iv 2)]) (fun _ => rfl) (fun c2 ec2 => ?_)
            refine r_goto (tgt := 52) C dX6_count_79 (by decide) ?_
            refine r_sub [2, 3, 1, 0] (L' := [(0, .ref (a 18)), (1, iv 2), (2, iv s2), (3, iv c2)]) rfl ?_
            exact ih52 _ _ (by omega) (by subst ec2; subst es2; refine ⟨by omega, by omega, ?_⟩; rw [cntN_s _ (by omega)]; first | (rw [if_pos (by omega)]; omega) | (rw [if_neg (by omega)]; omega))
    refine r_sub [2, 3, 1, 0] (L' := [(0, .ref (a 18)), (1, iv 2), (2, iv s0), (3, iv b52)]) rfl ?_
    exact lp52 ((σ 18 0 : Int).toNat + 1) _ _ (by omega) (by subst es0; subst eb52; exact ⟨by omega, by omega, rfl⟩)
  · skip
    refine r_tIn (off := 81) (tgt := 84) C dX6_count_3 (by omega) (by decide) (by decide) rfl (by decide) ?_
    refine r_iconst C dX6_count_84 ?_
    refine r_istore_n C dX6_count_85 (by decide) (fun z_ => [(3, iv z_), (2, iv s0), (0, .ref (a 18)), (1, iv 3)]) (fun _ => rfl) (fun b86 eb86 => ?_)
    have lp86 : ∀ (N : Nat) (su : Int) (b : Int), (σ 18 0 - b : Int) < N → (0 ≤ b ∧ b ≤ σ 18 0 ∧ su = secN (σ 20) (σ 19) b.toNat) → J κ 0 0 a n σ [(0, .ref (a 18)), (1, iv 3), (2, iv su), (3, iv b)] 86 [] := by
      intro N
      induction N with
      | zero =>
        intro su b hm86 hi86
        exact absurd hm86 (by omega)
      | succ N ih86 =>
        intro su b hm86 hi86
        have hbd := secN_bd (σ 20) (σ 19) hse b.toNat
        refine r_iload_n C dX6_count_86 3 rfl ?_
        refine r_aload_n C dX6_count_87 0 rfl ?_
        refine gX6_82 C dX6_count_88 (fun g7 => ?_)
        refine r_icmp_ge (tgt := 121) C dX6_count_91 (by decide) (by omega) (by omega) (fun h8 => ?_) (fun h8 => ?_)
        · skip
          refine r_iload_n C dX6_count_121 2 rfl ?_
          exact hret _ _ _ _ dX6_count_122 (by first | (refine (Or.inl ⟨?_, ?_, ?_⟩) <;> first | omega | assumption | rfl) | (refine (Or.inr (Or.inl ⟨?_, ?_, ?_⟩)) <;> first | omega | assumption | rfl) | (refine (Or.inr (Or.inr (Or.inl ⟨?_, ?_, ?_⟩))) <;> first | omega | assumption | rfl) | (refine (Or.inr (Or.inr (Or.inr (Or.inl ⟨?_, ?_, ?_⟩)))) <;> first | omega | assumption | rfl) | (refine (Or.inr (Or.inr (Or.inr (Or.inr (Or.inl ⟨?_, ?_, ?_⟩))))) <;> first | omega | assumption | rfl) | (refine (Or.inr (Or.inr (Or.inr (Or.inr (Or.inr (Or.inl ⟨?_, ?_, ?_⟩)))))) <;> first | omega | assumption | rfl) | (refine (Or.inr (Or.inr (Or.inr (Or.inr (Or.inr (Or.inr ⟨?_, ?_, ?_⟩)))))) <;> first | omega | assumption | rfl) | (obtain ⟨-, hb9, he9⟩ := hi52; refine (Or.inr (Or.inr (Or.inl ⟨?_, ?_, ?_⟩))) <;> first | omega | rfl | (rw [he9, show b = σ 18 0 by omega])) | (obtain ⟨-, hb9, he9⟩ := hi86; refine (Or.inr (Or.inr (Or.inr (Or.inl ⟨?_, ?_, ?_⟩)))) <;> first | omega | rfl | (rw [he9, show b = σ 18 0 by omega])) | (obtain ⟨-, hb9, he9⟩ := hi130; refine (Or.inr (Or.inr (Or.inr (Or.inr (Or.inr (Or.inl ⟨?_, ?_, ?_⟩)))))) <;> first | omega | rfl | (rw [he9, show b = σ 18 1 by omega])))
        · skip
          refine r_iload_n C dX6_count_94 2 rfl ?_
          refine r_aload_n C dX6_count_95 0 rfl ?_
          refine r_iload_n C dX6_count_96 3 rfl ?_
          refine r_callB1 18 C dX6_count_97 lkX6_103 (m_X6_isCut (by omega)) ⟨rfl, rfl, Nat.le_of_ble_eq_true rfl, Nat.le_of_ble_eq_true rfl⟩ ⟨Nat.zero_le _, Nat.zero_le _⟩ rc18 (Nat.le_of_ble_eq_true rfl) (fun hc => ?_) (fun hc => ?_)
          · skip
            refine r_if_eq (tgt := 107) C dX6_count_100 (by decide) (by decide) (fun q => absurd q (by decide)) (fun _ => ?_)
            refine r_iconst C dX6_count_103 ?_
            refine r_goto (tgt := 113) C dX6_count_104 (by decide) ?_
            refine r_iadd C dX6_count_113 ?_
            refine r_istore_n C dX6_count_114 (by decide) (fun z_ => [(2, iv z_), (0, .ref (a 18)), (1, iv 3), (3, iv b)]) (fun _ => rfl) (fun s3 es3 => ?_)
            refine r_iinc C dX6_count_115 (by decide) 3 rfl (fun z_ => [(3, iv z_), (2, iv s3), (0, .ref (a 18)), (1, iv 3)]) (fun _ => rfl) (fun c3 ec3 => ?_)
            refine r_goto (tgt := 86) C dX6_count_118 (by decide) ?_
            refine r_sub [2, 3, 1, 0] (L' := [(0, .ref (a 18)), (1, iv 3), (2, iv s3), (3, iv c3)]) rfl ?_
            exact ih86 _ _ (by omega) (by subst ec3; subst es3; refine ⟨by omega, by omega, ?_⟩; rw [secN_s _ _ (by omega)]; first | (rw [if_pos (by omega)]; omega) | (rw [if_neg (by omega)]; omega))
          · skip
            refine r_if_eq (tgt := 107) C dX6_count_100 (by decide) (by decide) (fun _ => ?_) (fun q => absurd q (by decide))
            refine r_aload_n C dX6_count_107 0 rfl ?_
            refine gX6_22 C dX6_count_108 ?_
            refine r_iload_n C dX6_count_111 3 rfl ?_
            have hsb := hse b
            refine r_iald 40 C dX6_count_112 (by omega) (fun _ => rfl) (by omega) (by omega) (by decide) (fun g12 => ?_)
            refine r_iadd C dX6_count_113 ?_
            refine r_istore_n C dX6_count_114 (by decide) (fun z_ => [(2, iv z_), (0, .ref (a 18)), (1, iv 3), (3, iv b)]) (fun _ => rfl) (fun s3 es3 => ?_)
            refine r_iinc C dX6_count_115 (by decide) 3 rfl (fun z_ => [(3, iv z_), (2, iv s3), (0, .ref (a 18)), (1, iv 3)]) (fun _ => rfl) (fun c3 ec3 => ?_)
            refine r_goto (tgt := 86) C dX6_count_118 (by decide) ?_
            refine r_sub [2, 3, 1, 0] (L' := [(0, .ref (a 18)), (1, iv 3), (2, iv s3), (3, iv c3)]) rfl ?_
            exact ih86 _ _ (by omega) (by subst ec3; subst es3; refine ⟨by omega, by omega, ?_⟩; rw [secN_s _ _ (by omega)]; first | (rw [if_pos (by omega)]; omega) | (rw [if_neg (by omega)]; omega))
    refine r_sub [2, 3, 1, 0] (L' := [(0, .ref (a 18)), (1, iv 3), (2, iv s0), (3, iv b86)]) rfl ?_
    exact lp86 ((σ 18 0 : Int).toNat + 1) _ _ (by omega) (by subst es0; subst eb86; exact ⟨by omega, by omega, rfl⟩)
  · skip
    refine r_tIn (off := 120) (tgt := 123) C dX6_count_3 (by omega) (by decide) (by decide) rfl (by decide) ?_
    refine r_aload_n C dX6_count_123 1 rfl ?_
    refine gX6_150 C dX6_count_124 (fun g13 => ?_)
    exact hret _ _ _ _ dX6_count_127 (by first | (refine (Or.inl ⟨?_, ?_, ?_⟩) <;> first | omega | assumption | rfl) | (refine (Or.inr (Or.inl ⟨?_, ?_, ?_⟩)) <;> first | omega | assumption | rfl) | (refine (Or.inr (Or.inr (Or.inl ⟨?_, ?_, ?_⟩))) <;> first | omega | assumption | rfl) | (refine (Or.inr (Or.inr (Or.inr (Or.inl ⟨?_, ?_, ?_⟩)))) <;> first | omega | assumption | rfl) | (refine (Or.inr (Or.inr (Or.inr (Or.inr (Or.inl ⟨?_, ?_, ?_⟩))))) <;> first | omega | assumption | rfl) | (refine (Or.inr (Or.inr (Or.inr (Or.inr (Or.inr (Or.inl ⟨?_, ?_, ?_⟩)))))) <;> first | omega | assumption | rfl) | (refine (Or.inr (Or.inr (Or.inr (Or.inr (Or.inr (Or.inr ⟨?_, ?_, ?_⟩)))))) <;> first | omega | assumption | rfl) | (obtain ⟨-, hb9, he9⟩ := hi52; refine (Or.inr (Or.inr (Or.inl ⟨?_, ?_, ?_⟩))) <;> first | omega | rfl | (rw [he9, show b = σ 18 0 by omega])) | (obtain ⟨-, hb9, he9⟩ := hi86; refine (Or.inr (Or.inr (Or.inr (Or.inl ⟨?_, ?_, ?_⟩)))) <;> first | omega | rfl | (rw [he9, show b = σ 18 0 by omega])) | (obtain ⟨-, hb9, he9⟩ := hi130; refine (Or.inr (Or.inr (Or.inr (Or.inr (Or.inr (Or.inl ⟨?_, ?_, ?_⟩)))))) <;> first | omega | rfl | (rw [he9, show b = σ 18 1 by omega])))
  · skip
    refine r_tIn (off := 125) (tgt := 128) C dX6_count_3 (by omega) (by decide) (by decide) rfl (by decide) ?_
    refine r_iconst C dX6_count_128 ?_
    refine r_istore_n C dX6_count_129 (by decide) (fun z_ => [(3, iv z_), (2, iv s0), (0, .ref (a 18)), (1, iv 5)]) (fun _ => rfl) (fun b130 eb130 => ?_)
    have lp130 : ∀ (N : Nat) (su : Int) (b : Int), (σ 18 1 - b : Int) < N → (0 ≤ b ∧ b ≤ σ 18 1 ∧ su = laidN (σ 32) b.toNat) → J κ 0 0 a n σ [(0, .ref (a 18)), (1, iv 5), (2, iv su), (3, iv b)] 130 [] := by
      intro N
      induction N with
      | zero =>
        intro su b hm130 hi130
        exact absurd hm130 (by omega)
      | succ N ih130 =>
        intro su b hm130 hi130
        have hbd := laidN_bd (σ 32) b.toNat
        refine r_iload_n C dX6_count_130 3 rfl ?_
        refine r_aload_n C dX6_count_131 0 rfl ?_
        refine gX6_89 C dX6_count_132 (fun g14 => ?_)
        refine r_icmp_ge (tgt := 161) C dX6_count_135 (by decide) (by omega) (by omega) (fun h15 => ?_) (fun h15 => ?_)
        · skip
          refine r_iload_n C dX6_count_161 2 rfl ?_
          exact hret _ _ _ _ dX6_count_162 (by first | (refine (Or.inl ⟨?_, ?_, ?_⟩) <;> first | omega | assumption | rfl) | (refine (Or.inr (Or.inl ⟨?_, ?_, ?_⟩)) <;> first | omega | assumption | rfl) | (refine (Or.inr (Or.inr (Or.inl ⟨?_, ?_, ?_⟩))) <;> first | omega | assumption | rfl) | (refine (Or.inr (Or.inr (Or.inr (Or.inl ⟨?_, ?_, ?_⟩)))) <;> first | omega | assumption | rfl) | (refine (Or.inr (Or.inr (Or.inr (Or.inr (Or.inl ⟨?_, ?_, ?_⟩))))) <;> first | omega | assumption | rfl) | (refine (Or.inr (Or.inr (Or.inr (Or.inr (Or.inr (Or.inl ⟨?_, ?_, ?_⟩)))))) <;> first | omega | assumption | rfl) | (refine (Or.inr (Or.inr (Or.inr (Or.inr (Or.inr (Or.inr ⟨?_, ?_, ?_⟩)))))) <;> first | omega | assumption | rfl) | (obtain ⟨-, hb9, he9⟩ := hi52; refine (Or.inr (Or.inr (Or.inl ⟨?_, ?_, ?_⟩))) <;> first | omega | rfl | (rw [he9, show b = σ 18 0 by omega])) | (obtain ⟨-, hb9, he9⟩ := hi86; refine (Or.inr (Or.inr (Or.inr (Or.inl ⟨?_, ?_, ?_⟩)))) <;> first | omega | rfl | (rw [he9, show b = σ 18 0 by omega])) | (obtain ⟨-, hb9, he9⟩ := hi130; refine (Or.inr (Or.inr (Or.inr (Or.inr (Or.inr (Or.inl ⟨?_, ?_, ?_⟩)))))) <;> first | omega | rfl | (rw [he9, show b = σ 18 1 by omega])))
        · skip
          refine r_iload_n C dX6_count_138 2 rfl ?_
          refine r_aload_n C dX6_count_139 0 rfl ?_
          refine gX6_62 C dX6_count_140 ?_
          refine r_iload_n C dX6_count_143 3 rfl ?_
          refine r_iald 6 C dX6_count_144 (by omega) (fun _ => rfl) (by omega) (by omega) (by decide) (fun g17 => ?_)
          refine r_if_le (tgt := 152) C dX6_count_145 (by decide) (by omega) (fun hc => ?_) (fun hc => ?_)
          · skip
            refine r_iconst C dX6_count_152 ?_
            refine r_iadd C dX6_count_153 ?_
            refine r_istore_n C dX6_count_154 (by decide) (fun z_ => [(2, iv z_), (0, .ref (a 18)), (1, iv 5), (3, iv b)]) (fun _ => rfl) (fun s4 es4 => ?_)
            refine r_iinc C dX6_count_155 (by decide) 3 rfl (fun z_ => [(3, iv z_), (2, iv s4), (0, .ref (a 18)), (1, iv 5)]) (fun _ => rfl) (fun c4 ec4 => ?_)
            refine r_goto (tgt := 130) C dX6_count_158 (by decide) ?_
            refine r_sub [2, 3, 1, 0] (L' := [(0, .ref (a 18)), (1, iv 5), (2, iv s4), (3, iv c4)]) rfl ?_
            exact ih130 _ _ (by omega) (by subst ec4; subst es4; refine ⟨by omega, by omega, ?_⟩; rw [laidN_s _ (by omega)]; first | (rw [if_pos (by omega)]; omega) | (rw [if_neg (by omega)]; omega))
          · skip
            refine r_iconst C dX6_count_148 ?_
            refine r_goto (tgt := 153) C dX6_count_149 (by decide) ?_
            refine r_iadd C dX6_count_153 ?_
            refine r_istore_n C dX6_count_154 (by decide) (fun z_ => [(2, iv z_), (0, .ref (a 18)), (1, iv 5), (3, iv b)]) (fun _ => rfl) (fun s4 es4 => ?_)
            refine r_iinc C dX6_count_155 (by decide) 3 rfl (fun z_ => [(3, iv z_), (2, iv s4), (0, .ref (a 18)), (1, iv 5)]) (fun _ => rfl) (fun c4 ec4 => ?_)
            refine r_goto (tgt := 130) C dX6_count_158 (by decide) ?_
            refine r_sub [2, 3, 1, 0] (L' := [(0, .ref (a 18)), (1, iv 5), (2, iv s4), (3, iv c4)]) rfl ?_
            exact ih130 _ _ (by omega) (by subst ec4; subst es4; refine ⟨by omega, by omega, ?_⟩; rw [laidN_s _ (by omega)]; first | (rw [if_pos (by omega)]; omega) | (rw [if_neg (by omega)]; omega))
    refine r_sub [2, 3, 1, 0] (L' := [(0, .ref (a 18)), (1, iv 5), (2, iv s0), (3, iv b130)]) rfl ?_
    exact lp130 ((σ 18 1 : Int).toNat + 1) _ _ (by omega) (by subst es0; subst eb130; exact ⟨by omega, by omega, rfl⟩)
  · skip
    refine r_tOut (tgt := 163) C dX6_count_3 (by omega) (by omega) (by decide) ?_
    refine r_aload_n C dX6_count_163 1 rfl ?_
    refine r_iconst C dX6_count_164 ?_
    refine r_callI1 18 C dX6_count_165 lkX6_92 (m_X6_finds (by omega) (MS.F (by assumption) _)) ⟨rfl, rfl, Nat.le_of_ble_eq_true rfl, Nat.le_of_ble_eq_true rfl⟩ ⟨Nat.zero_le _, Nat.zero_le _⟩ rc18 (Nat.le_of_ble_eq_true rfl) (fun r19 s20 hr19 => ?_)
    obtain ⟨er19, hr19⟩ := hr19
    exact hret _ _ _ _ dX6_count_168 (by first | (refine (Or.inl ⟨?_, ?_, ?_⟩) <;> first | omega | assumption | rfl) | (refine (Or.inr (Or.inl ⟨?_, ?_, ?_⟩)) <;> first | omega | assumption | rfl) | (refine (Or.inr (Or.inr (Or.inl ⟨?_, ?_, ?_⟩))) <;> first | omega | assumption | rfl) | (refine (Or.inr (Or.inr (Or.inr (Or.inl ⟨?_, ?_, ?_⟩)))) <;> first | omega | assumption | rfl) | (refine (Or.inr (Or.inr (Or.inr (Or.inr (Or.inl ⟨?_, ?_, ?_⟩))))) <;> first | omega | assumption | rfl) | (refine (Or.inr (Or.inr (Or.inr (Or.inr (Or.inr (Or.inl ⟨?_, ?_, ?_⟩)))))) <;> first | omega | assumption | rfl) | (refine (Or.inr (Or.inr (Or.inr (Or.inr (Or.inr (Or.inr ⟨?_, ?_, ?_⟩)))))) <;> first | omega | assumption | rfl) | (obtain ⟨-, hb9, he9⟩ := hi52; refine (Or.inr (Or.inr (Or.inl ⟨?_, ?_, ?_⟩))) <;> first | omega | rfl | (rw [he9, show b = σ 18 0 by omega])) | (obtain ⟨-, hb9, he9⟩ := hi86; refine (Or.inr (Or.inr (Or.inr (Or.inl ⟨?_, ?_, ?_⟩)))) <;> first | omega | rfl | (rw [he9, show b = σ 18 0 by omega])) | (obtain ⟨-, hb9, he9⟩ := hi130; refine (Or.inr (Or.inr (Or.inr (Or.inr (Or.inr (Or.inl ⟨?_, ?_, ?_⟩)))))) <;> first | omega | rfl | (rw [he9, show b = σ 18 1 by omega])))
end
section
def cueM (σ : ST) (v i : Int) : Int := cueF (Pm σ v) (Lm σ) (σ 23) (σ 18 1) v (σ 18 4) i
def wM (σ : ST) (v i : Int) : Int := widF (Pm σ v) (Mm σ) (cueM σ v) i False
def wfM (σ : ST) (v i : Int) : Int := widF (Pm σ v) (Mm σ) (cueM σ v) i True
def syM (σ : ST) (v i m : Int) : Int := (sysF (wM σ v) (wfM σ v) (σ 18 5) i m.toNat).1
def frM (σ : ST) (v i : Int) : Int := freF (Pm σ v) (Sm σ) (σ 18 18) i
def ndM (σ : ST) (v : Int) : Int := if σ 21 v = 1 then σ 18 7 / 2 else σ 18 7
def btM (σ : ST) (v i : Int) : Int := if i < σ 18 18 ∧ frM σ v i < ndM σ v then 1 else 0
theorem scan_skip {hd : Int → Int} {o best most : Int} (h : (best, most) = scanF hd o.toNat) (h0 : 0 ≤ o) (hle : hd o ≤ most) : (best, most) = scanF hd (o + 1).toNat := by
  rw [scanF_s _ h0, ← h, if_neg (by simp only; omega)]
theorem scan_take {hd : Int → Int} {o best most z : Int} (h : (best, most) = scanF hd o.toNat) (h0 : 0 ≤ o) (hz : z = hd o) (hlt : most < z) : (o, z) = scanF hd (o + 1).toNat := by
  rw [scanF_s _ h0, ← h, if_pos (by simp only; omega), hz]
theorem hear_0 {LD : Int → Int → Int} {stg : Int → Int} {v due i o : Int} (h : o = v ∨ stg o = 0) : hearF LD stg v due i o = 0 := if_pos h
theorem hear_1 {LD : Int → Int → Int} {stg : Int → Int} {v due i o : Int} (h1 : ¬ o = v) (h2 : ¬ stg o = 0) (h3 : 1 < due) : hearF LD stg v due i o = LD o (i - 1) + LD o (i - 2) := by
  unfold hearF
  rw [if_neg (by omega), if_pos h3]
theorem hear_2 {LD : Int → Int → Int} {stg : Int → Int} {v due i o : Int} (h1 : ¬ o = v) (h2 : ¬ stg o = 0) (h3 : ¬ 1 < due) : hearF LD stg v due i o = LD o (i - 1) := by
  unfold hearF
  rw [if_neg (by omega), if_neg h3]; omega
theorem cueF_all {P : Int → Int} {LD : Int → Int → Int} {stg : Int → Int} {nv v due i : Int} (h1 : ¬ P i = 0) (h2 : due ≤ i) (h3 : ∀ j, 1 ≤ j → j ≤ due → P (i - j) = 0) (h4 : 0 ≤ due) : cueF P LD stg nv v due i = (scanF (hearF LD stg v due i) nv.toNat).1 := by
  unfold cueF
  rw [if_pos ⟨h1, h2, (allZ_iff P i due.toNat).mpr (fun k a1 a2 => h3 k a1 (by omega))⟩]
theorem cueF_no {P : Int → Int} {LD : Int → Int → Int} {stg : Int → Int} {nv v due i : Int} (h : ¬ (¬ P i = 0 ∧ due ≤ i)) : cueF P LD stg nv v due i = -1 := by
  unfold cueF
  rw [if_neg (fun q => h ⟨q.1, q.2.1⟩)]
theorem cueF_no2 {P : Int → Int} {LD : Int → Int → Int} {stg : Int → Int} {nv v due i k : Int} (h1 : 1 ≤ k) (h2 : k ≤ due) (h : ¬ P (i - k) = 0) : cueF P LD stg nv v due i = -1 := by
  unfold cueF
  rw [if_neg (fun q => h ((allZ_iff P i due.toNat).mp q.2.2 k h1 (by omega)))]
set_option maxHeartbeats 4000000 in
set_option maxRecDepth 100000 in
theorem m_X6_cueAt {a : Nat → Nat} {n : Nat} {σ : ST} {v i : Int} (hM : MS σ) (hI : RowIn σ) (hv : 0 ≤ v ∧ v < 6) (hi : 0 ≤ i ∧ i < σ 18 18) : MP yX6_cueAt cX6_cueAt 7 .int (RM 1 22) a n σ [.ref (a 18), iv v, iv i] (fun r => r = cueM σ v i) := by
  refine MI.of (own := RX6) (by decide +kernel) rfl (Nat.le_of_ble_eq_true rfl) ?_
  intro κ C hret
  show J κ 0 0 a n σ [(0, .ref (a 18)), (1, iv v), (2, iv i)] 0 []
  obtain ⟨hb, hvn, hwt, hky, hdu, hwd, hli, hne, hse, hmk, hkd, hsh, hos, hpl, hld, hF, hlp, hpo⟩ := id hM
  have hrm := hI.2.1
  refine r_aload_n C dX6_cueAt_0 0 rfl ?_
  refine r_iload_n C dX6_cueAt_1 1 rfl ?_
  refine r_iload_n C dX6_cueAt_2 2 rfl ?_
  refine r_callB2 18 C dX6_cueAt_3 lkX6_109 (m_X6_rests hI (by omega) (by omega)) ⟨rfl, rfl, Nat.le_of_ble_eq_true rfl, Nat.le_of_ble_eq_true rfl⟩ ⟨Nat.zero_le _, Nat.zero_le _⟩ rc18 (Nat.le_of_ble_eq_true rfl) (fun hr0 => ?_) (fun hr0 => ?_)
  · skip
    refine r_if_ne (tgt := 17) C dX6_cueAt_6 (by decide) (by decide) (fun _ => ?_) (fun q => absurd q (by decide))
    refine r_iconst C dX6_cueAt_17 ?_
    exact hret _ _ _ _ dX6_cueAt_18 ⟨rfl, by unfold cueM; first | (rw [cueF_all hr0 (by omega) (fun j h1 h2 => hk3 j h1 (by omega)) (by omega), show σ 18 1 = o by omega, ← hsc]) | (rw [cueF_no2 hk1 (by omega) hrk]) | (rw [cueF_no (fun q => by first | omega | exact q.1 hr0)])⟩
  · skip
    refine r_if_ne (tgt := 17) C dX6_cueAt_6 (by decide) (by decide) (fun q => absurd q (by decide)) (fun _ => ?_)
    refine r_iload_n C dX6_cueAt_9 2 rfl ?_
    refine r_aload_n C dX6_cueAt_10 0 rfl ?_
    refine gX6_7 C dX6_cueAt_11 (fun g3 => ?_)
    refine r_icmp_ge (tgt := 19) C dX6_cueAt_14 (by decide) (by omega) (by omega) (fun hdi => ?_) (fun hdi => ?_)
    · skip
      refine r_iconst C dX6_cueAt_19 ?_
      refine r_istore_n C dX6_cueAt_20 (by decide) (fun z_ => [(3, iv z_), (0, .ref (a 18)), (1, iv v), (2, iv i)]) (fun _ => rfl) (fun k0 ek0 => ?_)
      have lp21 : ∀ (N : Nat) (k : Int), (σ 18 4 + 1 - k : Int) < N → (1 ≤ k ∧ k ≤ σ 18 4 + 1 ∧ ∀ j, 1 ≤ j → j < k → Pm σ v (i - j) = 0) → J κ 0 0 a n σ [(0, .ref (a 18)), (1, iv v), (2, iv i), (3, iv k)] 21 [] := by
        intro N
        induction N with
        | zero =>
          intro k hm21 hi21
          exact absurd hm21 (by omega)
        | succ N ih21 =>
          intro k hm21 hi21
          obtain ⟨hk1, hk2, hk3⟩ := hi21
          refine r_iload_n C dX6_cueAt_21 3 rfl ?_
          refine r_aload_n C dX6_cueAt_22 0 rfl ?_
          refine gX6_7 C dX6_cueAt_23 (fun g5 => ?_)
          refine r_icmp_gt (tgt := 48) C dX6_cueAt_26 (by decide) (by omega) (by omega) (fun h6 => ?_) (fun h6 => ?_)
          · skip
            refine r_iconst C dX6_cueAt_48 ?_
            refine r_istore_n C dX6_cueAt_49 (by decide) (fun z_ => [(3, iv z_), (0, .ref (a 18)), (1, iv v), (2, iv i)]) (fun _ => rfl) (fun b0 eb0 => ?_)
            refine r_iconst C dX6_cueAt_50 ?_
            refine r_istore C dX6_cueAt_51 (by decide) (fun z_ => [(4, iv z_), (3, iv b0), (0, .ref (a 18)), (1, iv v), (2, iv i)]) (fun _ => rfl) (fun m0 em0 => ?_)
            refine r_iconst C dX6_cueAt_53 ?_
            refine r_istore C dX6_cueAt_54 (by decide) (fun z_ => [(5, iv z_), (4, iv m0), (3, iv b0), (0, .ref (a 18)), (1, iv v), (2, iv i)]) (fun _ => rfl) (fun o0 eo0 => ?_)
            have lp56 : ∀ (N : Nat) (best : Int) (most : Int) (o : Int), (σ 18 1 - o : Int) < N → (0 ≤ o ∧ o ≤ σ 18 1 ∧ (0 ≤ most ∧ most ≤ 18) ∧ (best, most) = scanF (hearF (Lm σ) (σ 23) v (σ 18 4) i) o.toNat) → J κ 0 0 a n σ [(0, .ref (a 18)), (1, iv v), (2, iv i), (3, iv best), (4, iv most), (5, iv o)] 56 [] := by
              intro N
              induction N with
              | zero =>
                intro best most o hm56 hi56
                exact absurd hm56 (by omega)
              | succ N ih56 =>
                intro best most o hm56 hi56
                obtain ⟨ho1, ho2, ho3, hsc⟩ := hi56
                refine r_iload C dX6_cueAt_56 5 rfl ?_
                refine r_aload_n C dX6_cueAt_58 0 rfl ?_
                refine gX6_89 C dX6_cueAt_59 (fun g7 => ?_)
                refine r_icmp_ge (tgt := 160) C dX6_cueAt_62 (by decide) (by omega) (by omega) (fun h8 => ?_) (fun h8 => ?_)
                · skip
                  refine r_iload_n C dX6_cueAt_160 3 rfl ?_
                  exact hret _ _ _ _ dX6_cueAt_161 ⟨rfl, by unfold cueM; first | (rw [cueF_all hr0 (by omega) (fun j h1 h2 => hk3 j h1 (by omega)) (by omega), show σ 18 1 = o by omega, ← hsc]) | (rw [cueF_no2 hk1 (by omega) hrk]) | (rw [cueF_no (fun q => by first | omega | exact q.1 hr0)])⟩
                · skip
                  refine r_iload C dX6_cueAt_65 5 rfl ?_
                  refine r_iload_n C dX6_cueAt_67 1 rfl ?_
                  refine r_icmp_eq (tgt := 154) C dX6_cueAt_68 (by decide) (by omega) (by omega) (fun hov => ?_) (fun hov => ?_)
                  · skip
                    refine r_iinc C dX6_cueAt_154 (by decide) 5 rfl (fun z_ => [(5, iv z_), (0, .ref (a 18)), (1, iv v), (2, iv i), (3, iv best), (4, iv most)]) (fun _ => rfl) (fun o2 eo2 => ?_)
                    refine r_goto (tgt := 56) C dX6_cueAt_157 (by decide) ?_
                    refine r_sub [1, 2, 3, 4, 5, 0] (L' := [(0, .ref (a 18)), (1, iv v), (2, iv i), (3, iv best), (4, iv most), (5, iv o2)]) rfl ?_
                    exact ih56 _ _ _ (by omega) (by subst eo2; refine ⟨by omega, by omega, ?_, ?_⟩; (first | omega | (subst em2; omega)); first | (refine scan_skip hsc ho1 ?_; first | (rw [hear_0 (Or.inl hov)]; omega) | (rw [hear_0 (Or.inr hos0)]; omega) | (rw [hear_1 hov hos0 (by omega)]; unfold Lm; omega) | (rw [hear_2 hov hos0 (by omega)]; unfold Lm; omega)) | (subst eb2; subst em2; refine scan_take hsc ho1 ?_ (by omega); first | (rw [hear_1 hov hos0 (by omega), esm]; rfl) | (rw [hear_2 hov hos0 (by omega), esm]; unfold Lm; omega)))
                  · skip
                    refine r_aload_n C dX6_cueAt_71 0 rfl ?_
                    refine gX6_35 C dX6_cueAt_72 ?_
                    refine r_iload C dX6_cueAt_75 5 rfl ?_
                    refine r_iald 6 C dX6_cueAt_77 (by omega) (fun _ => rfl) (by omega) (by omega) (by decide) (fun g11 => ?_)
                    refine r_if_ne (tgt := 84) C dX6_cueAt_78 (by decide) (by omega) (fun hos0 => ?_) (fun hos0 => ?_)
                    · skip
                      have hr1 := hI.2.2 (i - 1) (by omega) (by omega)
                      have hl1 := hld (40 * o + σ 28 (i - 1))
                      refine r_aload_n C dX6_cueAt_84 0 rfl ?_
                      refine gX6_41 C dX6_cueAt_85 ?_
                      refine r_bipush C dX6_cueAt_88 (by decide) ?_
                      refine r_iload C dX6_cueAt_90 5 rfl ?_
                      refine r_imul C dX6_cueAt_92 ?_
                      refine r_aload_n C dX6_cueAt_93 0 rfl ?_
                      refine gX6_50 C dX6_cueAt_94 ?_
                      refine r_iload_n C dX6_cueAt_97 2 rfl ?_
                      refine r_iconst C dX6_cueAt_98 ?_
                      refine r_isub C dX6_cueAt_99 ?_
                      refine r_iald 40 C dX6_cueAt_100 (by omega) (fun _ => rfl) (by omega) (by omega) (by decide) (fun g15 => ?_)
                      refine r_iadd C dX6_cueAt_101 ?_
                      refine r_iald 240 C dX6_cueAt_102 (by omega) (fun _ => rfl) (by omega) (by omega) (by decide) (fun g16 => ?_)
                      refine r_aload_n C dX6_cueAt_103 0 rfl ?_
                      refine gX6_7 C dX6_cueAt_104 (fun g17 => ?_)
                      refine r_iconst C dX6_cueAt_107 ?_
                      refine r_icmp_le (tgt := 133) C dX6_cueAt_108 (by decide) (by omega) (by omega) (fun hd1 => ?_) (fun hd1 => ?_)
                      · skip
                        refine r_iconst C dX6_cueAt_133 ?_
                        refine r_iadd C dX6_cueAt_134 ?_
                        refine r_istore C dX6_cueAt_135 (by decide) (fun z_ => [(6, iv z_), (0, .ref (a 18)), (1, iv v), (2, iv i), (3, iv best), (4, iv most), (5, iv o)]) (fun _ => rfl) (fun sm esm => ?_)
                        refine r_iload C dX6_cueAt_137 0 rfl ?_
                        refine r_iload C dX6_cueAt_139 5 rfl ?_
                        refine r_icmp_gt (tgt := 147) C dX6_cueAt_141 (by decide) (by omega) (by omega) (fun hgt => ?_) (fun hgt => ?_)
                        · skip
                          refine r_iload C dX6_cueAt_147 6 rfl ?_
                          refine r_istore_n C dX6_cueAt_149 (by decide) (fun z_ => [(3, iv z_), (6, iv sm), (0, .ref (a 18)), (1, iv v), (2, iv i), (4, iv most), (5, iv o)]) (fun _ => rfl) (fun b2 eb2 => ?_)
                          refine r_iload C dX6_cueAt_150 1 rfl ?_
                          refine r_istore C dX6_cueAt_152 (by decide) (fun z_ => [(4, iv z_), (3, iv b2), (6, iv sm), (0, .ref (a 18)), (1, iv v), (2, iv i), (5, iv o)]) (fun _ => rfl) (fun m2 em2 => ?_)
                          refine r_iinc C dX6_cueAt_154 (by decide) 6 rfl (fun z_ => [(5, iv z_), (4, iv m2), (3, iv b2), (6, iv sm), (0, .ref (a 18)), (1, iv v), (2, iv i)]) (fun _ => rfl) (fun o2 eo2 => ?_)
                          refine r_goto (tgt := 56) C dX6_cueAt_157 (by decide) ?_
                          refine r_sub [4, 5, 6, 2, 1, 0] (L' := [(0, .ref (a 18)), (1, iv v), (2, iv i), (3, iv b2), (4, iv m2), (5, iv o2)]) rfl ?_
                          exact ih56 _ _ _ (by omega) (by subst eo2; refine ⟨by omega, by omega, ?_, ?_⟩; (first | omega | (subst em2; omega)); first | (refine scan_skip hsc ho1 ?_; first | (rw [hear_0 (Or.inl hov)]; omega) | (rw [hear_0 (Or.inr hos0)]; omega) | (rw [hear_1 hov hos0 (by omega)]; unfold Lm; omega) | (rw [hear_2 hov hos0 (by omega)]; unfold Lm; omega)) | (subst eb2; subst em2; refine scan_take hsc ho1 ?_ (by omega); first | (rw [hear_1 hov hos0 (by omega), esm]; rfl) | (rw [hear_2 hov hos0 (by omega), esm]; unfold Lm; omega)))
                        · skip
                          refine r_goto (tgt := 154) C dX6_cueAt_144 (by decide) ?_
                          refine r_iinc C dX6_cueAt_154 (by decide) 6 rfl (fun z_ => [(5, iv z_), (6, iv sm), (0, .ref (a 18)), (1, iv v), (2, iv i), (3, iv best), (4, iv most)]) (fun _ => rfl) (fun o2 eo2 => ?_)
                          refine r_goto (tgt := 56) C dX6_cueAt_157 (by decide) ?_
                          refine r_sub [2, 3, 4, 5, 6, 0] (L' := [(0, .ref (a 18)), (1, iv v), (2, iv i), (3, iv best), (4, iv most), (5, iv o2)]) rfl ?_
                          exact ih56 _ _ _ (by omega) (by subst eo2; refine ⟨by omega, by omega, ?_, ?_⟩; (first | omega | (subst em2; omega)); first | (refine scan_skip hsc ho1 ?_; first | (rw [hear_0 (Or.inl hov)]; omega) | (rw [hear_0 (Or.inr hos0)]; omega) | (rw [hear_1 hov hos0 (by omega)]; unfold Lm; omega) | (rw [hear_2 hov hos0 (by omega)]; unfold Lm; omega)) | (subst eb2; subst em2; refine scan_take hsc ho1 ?_ (by omega); first | (rw [hear_1 hov hos0 (by omega), esm]; rfl) | (rw [hear_2 hov hos0 (by omega), esm]; unfold Lm; omega)))
                      · skip
                        have hr2 := hI.2.2 (i - 2) (by omega) (by omega)
                        have hl2 := hld (40 * o + σ 28 (i - 2))
                        refine r_aload_n C dX6_cueAt_111 0 rfl ?_
                        refine gX6_41 C dX6_cueAt_112 ?_
                        refine r_bipush C dX6_cueAt_115 (by decide) ?_
                        refine r_iload C dX6_cueAt_117 5 rfl ?_
                        refine r_imul C dX6_cueAt_119 ?_
                        refine r_aload_n C dX6_cueAt_120 0 rfl ?_
                        refine gX6_50 C dX6_cueAt_121 ?_
                        refine r_iload_n C dX6_cueAt_124 2 rfl ?_
                        refine r_iconst C dX6_cueAt_125 ?_
                        refine r_isub C dX6_cueAt_126 ?_
                        refine r_iald 40 C dX6_cueAt_127 (by omega) (fun _ => rfl) (by omega) (by omega) (by decide) (fun g22 => ?_)
                        refine r_iadd C dX6_cueAt_128 ?_
                        refine r_iald 240 C dX6_cueAt_129 (by omega) (fun _ => rfl) (by omega) (by omega) (by decide) (fun g23 => ?_)
                        refine r_goto (tgt := 134) C dX6_cueAt_130 (by decide) ?_
                        refine r_iadd C dX6_cueAt_134 ?_
                        refine r_istore C dX6_cueAt_135 (by decide) (fun z_ => [(6, iv z_), (0, .ref (a 18)), (1, iv v), (2, iv i), (3, iv best), (4, iv most), (5, iv o)]) (fun _ => rfl) (fun sm esm => ?_)
                        refine r_iload C dX6_cueAt_137 0 rfl ?_
                        refine r_iload C dX6_cueAt_139 5 rfl ?_
                        refine r_icmp_gt (tgt := 147) C dX6_cueAt_141 (by decide) (by omega) (by omega) (fun hgt => ?_) (fun hgt => ?_)
                        · skip
                          refine r_iload C dX6_cueAt_147 6 rfl ?_
                          refine r_istore_n C dX6_cueAt_149 (by decide) (fun z_ => [(3, iv z_), (6, iv sm), (0, .ref (a 18)), (1, iv v), (2, iv i), (4, iv most), (5, iv o)]) (fun _ => rfl) (fun b2 eb2 => ?_)
                          refine r_iload C dX6_cueAt_150 1 rfl ?_
                          refine r_istore C dX6_cueAt_152 (by decide) (fun z_ => [(4, iv z_), (3, iv b2), (6, iv sm), (0, .ref (a 18)), (1, iv v), (2, iv i), (5, iv o)]) (fun _ => rfl) (fun m2 em2 => ?_)
                          refine r_iinc C dX6_cueAt_154 (by decide) 6 rfl (fun z_ => [(5, iv z_), (4, iv m2), (3, iv b2), (6, iv sm), (0, .ref (a 18)), (1, iv v), (2, iv i)]) (fun _ => rfl) (fun o2 eo2 => ?_)
                          refine r_goto (tgt := 56) C dX6_cueAt_157 (by decide) ?_
                          refine r_sub [4, 5, 6, 2, 1, 0] (L' := [(0, .ref (a 18)), (1, iv v), (2, iv i), (3, iv b2), (4, iv m2), (5, iv o2)]) rfl ?_
                          exact ih56 _ _ _ (by omega) (by subst eo2; refine ⟨by omega, by omega, ?_, ?_⟩; (first | omega | (subst em2; omega)); first | (refine scan_skip hsc ho1 ?_; first | (rw [hear_0 (Or.inl hov)]; omega) | (rw [hear_0 (Or.inr hos0)]; omega) | (rw [hear_1 hov hos0 (by omega)]; unfold Lm; omega) | (rw [hear_2 hov hos0 (by omega)]; unfold Lm; omega)) | (subst eb2; subst em2; refine scan_take hsc ho1 ?_ (by omega); first | (rw [hear_1 hov hos0 (by omega), esm]; rfl) | (rw [hear_2 hov hos0 (by omega), esm]; unfold Lm; omega)))
                        · skip
                          refine r_goto (tgt := 154) C dX6_cueAt_144 (by decide) ?_
                          refine r_iinc C dX6_cueAt_154 (by decide) 6 rfl (fun z_ => [(5, iv z_), (6, iv sm), (0, .ref (a 18)), (1, iv v), (2, iv i), (3, iv best), (4, iv most)]) (fun _ => rfl) (fun o2 eo2 => ?_)
                          refine r_goto (tgt := 56) C dX6_cueAt_157 (by decide) ?_
                          refine r_sub [2, 3, 4, 5, 6, 0] (L' := [(0, .ref (a 18)), (1, iv v), (2, iv i), (3, iv best), (4, iv most), (5, iv o2)]) rfl ?_
                          exact ih56 _ _ _ (by omega) (by subst eo2; refine ⟨by omega, by omega, ?_, ?_⟩; (first | omega | (subst em2; omega)); first | (refine scan_skip hsc ho1 ?_; first | (rw [hear_0 (Or.inl hov)]; omega) | (rw [hear_0 (Or.inr hos0)]; omega) | (rw [hear_1 hov hos0 (by omega)]; unfold Lm; omega) | (rw [hear_2 hov hos0 (by omega)]; unfold Lm; omega)) | (subst eb2; subst em2; refine scan_take hsc ho1 ?_ (by omega); first | (rw [hear_1 hov hos0 (by omega), esm]; rfl) | (rw [hear_2 hov hos0 (by omega), esm]; unfold Lm; omega)))
                    · skip
                      refine r_goto (tgt := 154) C dX6_cueAt_81 (by decide) ?_
                      refine r_iinc C dX6_cueAt_154 (by decide) 5 rfl (fun z_ => [(5, iv z_), (0, .ref (a 18)), (1, iv v), (2, iv i), (3, iv best), (4, iv most)]) (fun _ => rfl) (fun o2 eo2 => ?_)
                      refine r_goto (tgt := 56) C dX6_cueAt_157 (by decide) ?_
                      refine r_sub [1, 2, 3, 4, 5, 0] (L' := [(0, .ref (a 18)), (1, iv v), (2, iv i), (3, iv best), (4, iv most), (5, iv o2)]) rfl ?_
                      exact ih56 _ _ _ (by omega) (by subst eo2; refine ⟨by omega, by omega, ?_, ?_⟩; (first | omega | (subst em2; omega)); first | (refine scan_skip hsc ho1 ?_; first | (rw [hear_0 (Or.inl hov)]; omega) | (rw [hear_0 (Or.inr hos0)]; omega) | (rw [hear_1 hov hos0 (by omega)]; unfold Lm; omega) | (rw [hear_2 hov hos0 (by omega)]; unfold Lm; omega)) | (subst eb2; subst em2; refine scan_take hsc ho1 ?_ (by omega); first | (rw [hear_1 hov hos0 (by omega), esm]; rfl) | (rw [hear_2 hov hos0 (by omega), esm]; unfold Lm; omega)))
            refine r_sub [3, 4, 5, 2, 1, 0] (L' := [(0, .ref (a 18)), (1, iv v), (2, iv i), (3, iv b0), (4, iv m0), (5, iv o0)]) rfl ?_
            exact lp56 ((σ 18 1 : Int).toNat + 1) _ _ _ (by omega) (by subst eb0; subst em0; subst eo0; exact ⟨by omega, by omega, by omega, rfl⟩)
          · skip
            refine r_aload_n C dX6_cueAt_29 0 rfl ?_
            refine r_iload_n C dX6_cueAt_30 1 rfl ?_
            refine r_iload_n C dX6_cueAt_31 2 rfl ?_
            refine r_iload_n C dX6_cueAt_32 3 rfl ?_
            refine r_isub C dX6_cueAt_33 ?_
            refine r_callB2 18 C dX6_cueAt_34 lkX6_109 (m_X6_rests hI (by omega) (by omega)) ⟨rfl, rfl, Nat.le_of_ble_eq_true rfl, Nat.le_of_ble_eq_true rfl⟩ ⟨Nat.zero_le _, Nat.zero_le _⟩ rc18 (Nat.le_of_ble_eq_true rfl) (fun hrk => ?_) (fun hrk => ?_)
            · skip
              refine r_if_ne (tgt := 42) C dX6_cueAt_37 (by decide) (by decide) (fun _ => ?_) (fun q => absurd q (by decide))
              refine r_iinc C dX6_cueAt_42 (by decide) 3 rfl (fun z_ => [(3, iv z_), (0, .ref (a 18)), (1, iv v), (2, iv i)]) (fun _ => rfl) (fun k2 ek2 => ?_)
              refine r_goto (tgt := 21) C dX6_cueAt_45 (by decide) ?_
              refine r_sub [1, 2, 3, 0] (L' := [(0, .ref (a 18)), (1, iv v), (2, iv i), (3, iv k2)]) rfl ?_
              exact ih21 _ (by omega) (by subst ek2; refine ⟨by omega, by omega, fun j h1 h2 => ?_⟩; by_cases hj : j = k; (subst hj; exact hrk); exact hk3 j h1 (by omega))
            · skip
              refine r_if_ne (tgt := 42) C dX6_cueAt_37 (by decide) (by decide) (fun q => absurd q (by decide)) (fun _ => ?_)
              refine r_iconst C dX6_cueAt_40 ?_
              exact hret _ _ _ _ dX6_cueAt_41 ⟨rfl, by unfold cueM; first | (rw [cueF_all hr0 (by omega) (fun j h1 h2 => hk3 j h1 (by omega)) (by omega), show σ 18 1 = o by omega, ← hsc]) | (rw [cueF_no2 hk1 (by omega) hrk]) | (rw [cueF_no (fun q => by first | omega | exact q.1 hr0)])⟩
      refine r_sub [1, 2, 3, 0] (L' := [(0, .ref (a 18)), (1, iv v), (2, iv i), (3, iv k0)]) rfl ?_
      exact lp21 ((σ 18 4 : Int).toNat + 1) _ (by omega) (by subst ek0; exact ⟨by omega, by omega, fun j h1 h2 => by omega⟩)
    · skip
      refine r_iconst C dX6_cueAt_17 ?_
      exact hret _ _ _ _ dX6_cueAt_18 ⟨rfl, by unfold cueM; first | (rw [cueF_all hr0 (by omega) (fun j h1 h2 => hk3 j h1 (by omega)) (by omega), show σ 18 1 = o by omega, ← hsc]) | (rw [cueF_no2 hk1 (by omega) hrk]) | (rw [cueF_no (fun q => by first | omega | exact q.1 hr0)])⟩

theorem cueM_bd {σ : ST} {v i : Int} (hM : MS σ) : -1 ≤ cueM σ v i ∧ cueM σ v i < 6 := by
  have h1 := hM.2.1
  have := cueF_bd (P := Pm σ v) (LD := Lm σ) (stg := σ 23) (nv := σ 18 1) (v := v) (due := σ 18 4) (i := i) h1.1
  unfold cueM
  omega
theorem Pm_bd {σ : ST} {v i : Int} (hM : MS σ) : 0 ≤ Pm σ v i ∧ Pm σ v i ≤ 16 := hM.2.2.2.2.2.2.2.2.2.2.2.2.2.1 _
theorem wM_bd {σ : ST} {v : Int} (hM : MS σ) (i : Int) : 0 ≤ wM σ v i ∧ wM σ v i ≤ 21 := by
  have h1 := Pm_bd (v := v) (i := i) hM
  unfold wM widF
  split
  · split <;> omega
  · split <;> omega
theorem wfM_bd {σ : ST} {v : Int} (hM : MS σ) (i : Int) : 0 ≤ wfM σ v i ∧ wfM σ v i ≤ 21 := by
  have h1 := Pm_bd (v := v) (i := i) hM
  unfold wfM widF
  split
  · split <;> omega
  · split <;> omega
set_option maxHeartbeats 4000000 in
set_option maxRecDepth 100000 in
theorem m_X6_widthOf {a : Nat → Nat} {n : Nat} {σ : ST} {v i f : Int} (hM : MS σ) (hI : RowIn σ) (hv : 0 ≤ v ∧ v < 6) (hi : 0 ≤ i ∧ i < σ 18 18) (hf : f = 0 ∨ f = 1) : MP yX6_widthOf cX6_widthOf 4 .int (RM 2 48) a n σ [.ref (a 18), iv v, iv i, iv f] (fun r => (f = 1 ∧ r = wfM σ v i) ∨ (f = 0 ∧ r = wM σ v i)) := by
  refine MI.of (own := RX6) (by decide +kernel) rfl (Nat.le_of_ble_eq_true rfl) ?_
  intro κ C hret
  show J κ 0 0 a n σ [(0, .ref (a 18)), (1, iv v), (2, iv i), (3, iv f)] 0 []
  obtain ⟨hb, hvn, hwt, hky, hdu, hwd, hli, hne, hse, hmk, hkd, hsh, hos, hpl, hld, hF, hlp, hpo⟩ := id hM
  have hrm := hI.2.1
  have hri := hI.2.2 i hi.1 hi.2
  have hpb := hpl (40 * v + σ 28 i)
  have hcb := cueM_bd (v := v) (i := i) hM
  refine r_aload_n C dX6_widthOf_0 0 rfl ?_
  refine r_iload_n C dX6_widthOf_1 1 rfl ?_
  refine r_iload_n C dX6_widthOf_2 2 rfl ?_
  refine r_callB2 18 C dX6_widthOf_3 lkX6_109 (m_X6_rests hI (by omega) (by omega)) ⟨rfl, rfl, Nat.le_of_ble_eq_true rfl, Nat.le_of_ble_eq_true rfl⟩ ⟨Nat.zero_le _, Nat.zero_le _⟩ rc18 (Nat.le_of_ble_eq_true rfl) (fun hr0 => ?_) (fun hr0 => ?_)
  · skip
    refine r_if_eq (tgt := 28) C dX6_widthOf_6 (by decide) (by decide) (fun q => absurd q (by decide)) (fun _ => ?_)
    refine r_iload_n C dX6_widthOf_9 3 rfl ?_
    refine r_if_ne (tgt := 22) C dX6_widthOf_10 (by decide) (by omega) (fun hff => ?_) (fun hff => ?_)
    · skip
      refine r_iconst C dX6_widthOf_22 ?_
      refine r_goto (tgt := 27) C dX6_widthOf_23 (by decide) ?_
      exact hret _ _ _ _ dX6_widthOf_27 ⟨rfl, by unfold wfM wM widF; first | (refine Or.inl ⟨by omega, ?_⟩; rw [if_pos hr0, if_pos (Or.inl trivial)]) | (refine Or.inr ⟨by omega, ?_⟩; rw [if_pos hr0]; first | (rw [if_pos (Or.inr hbg)]; done) | (rw [if_neg (fun q => q.elim id hbg)]; done)) | (refine (hf.elim (fun h => Or.inr ⟨h, ?_⟩) (fun h => Or.inl ⟨h, ?_⟩)) <;> (rw [if_neg hr0]; unfold Pm; first | (rw [if_pos (by omega)]) | (rw [if_neg (by omega)])))⟩
    · skip
      refine r_aload_n C dX6_widthOf_13 0 rfl ?_
      refine r_iload_n C dX6_widthOf_14 1 rfl ?_
      refine r_iload_n C dX6_widthOf_15 2 rfl ?_
      refine r_callB2 18 C dX6_widthOf_16 lkX6_113 (m_X6_begins hI (by omega) (by omega)) ⟨rfl, rfl, Nat.le_of_ble_eq_true rfl, Nat.le_of_ble_eq_true rfl⟩ ⟨Nat.zero_le _, Nat.zero_le _⟩ rc18 (Nat.le_of_ble_eq_true rfl) (fun hbg => ?_) (fun hbg => ?_)
      · skip
        refine r_if_eq (tgt := 26) C dX6_widthOf_19 (by decide) (by decide) (fun q => absurd q (by decide)) (fun _ => ?_)
        refine r_iconst C dX6_widthOf_22 ?_
        refine r_goto (tgt := 27) C dX6_widthOf_23 (by decide) ?_
        exact hret _ _ _ _ dX6_widthOf_27 ⟨rfl, by unfold wfM wM widF; first | (refine Or.inl ⟨by omega, ?_⟩; rw [if_pos hr0, if_pos (Or.inl trivial)]) | (refine Or.inr ⟨by omega, ?_⟩; rw [if_pos hr0]; first | (rw [if_pos (Or.inr hbg)]; done) | (rw [if_neg (fun q => q.elim id hbg)]; done)) | (refine (hf.elim (fun h => Or.inr ⟨h, ?_⟩) (fun h => Or.inl ⟨h, ?_⟩)) <;> (rw [if_neg hr0]; unfold Pm; first | (rw [if_pos (by omega)]) | (rw [if_neg (by omega)])))⟩
      · skip
        refine r_if_eq (tgt := 26) C dX6_widthOf_19 (by decide) (by decide) (fun _ => ?_) (fun q => absurd q (by decide))
        refine r_iconst C dX6_widthOf_26 ?_
        exact hret _ _ _ _ dX6_widthOf_27 ⟨rfl, by unfold wfM wM widF; first | (refine Or.inl ⟨by omega, ?_⟩; rw [if_pos hr0, if_pos (Or.inl trivial)]) | (refine Or.inr ⟨by omega, ?_⟩; rw [if_pos hr0]; first | (rw [if_pos (Or.inr hbg)]; done) | (rw [if_neg (fun q => q.elim id hbg)]; done)) | (refine (hf.elim (fun h => Or.inr ⟨h, ?_⟩) (fun h => Or.inl ⟨h, ?_⟩)) <;> (rw [if_neg hr0]; unfold Pm; first | (rw [if_pos (by omega)]) | (rw [if_neg (by omega)])))⟩
  · skip
    refine r_if_eq (tgt := 28) C dX6_widthOf_6 (by decide) (by decide) (fun _ => ?_) (fun q => absurd q (by decide))
    refine r_iconst C dX6_widthOf_28 ?_
    refine r_aload_n C dX6_widthOf_29 0 rfl ?_
    refine gX6_38 C dX6_widthOf_30 ?_
    refine r_bipush C dX6_widthOf_33 (by decide) ?_
    refine r_iload_n C dX6_widthOf_35 1 rfl ?_
    refine r_imul C dX6_widthOf_36 ?_
    refine r_aload_n C dX6_widthOf_37 0 rfl ?_
    refine gX6_50 C dX6_widthOf_38 ?_
    refine r_iload_n C dX6_widthOf_41 2 rfl ?_
    refine r_iald 40 C dX6_widthOf_42 (by omega) (fun _ => rfl) (by omega) (by omega) (by decide) (fun g8 => ?_)
    refine r_iadd C dX6_widthOf_43 ?_
    refine r_iald 240 C dX6_widthOf_44 (by omega) (fun _ => rfl) (by omega) (by omega) (by decide) (fun g9 => ?_)
    refine r_iadd C dX6_widthOf_45 ?_
    refine r_aload_n C dX6_widthOf_46 0 rfl ?_
    refine r_iload_n C dX6_widthOf_47 1 rfl ?_
    refine r_iload_n C dX6_widthOf_48 2 rfl ?_
    refine r_callP2 18 C dX6_widthOf_49 lkX6_123 (m_X6_cueAt (by assumption) hI (by omega) (by omega)) ⟨rfl, rfl, Nat.le_of_ble_eq_true rfl, Nat.le_of_ble_eq_true rfl⟩ ⟨Nat.zero_le _, Nat.zero_le _⟩ rc18 (Nat.le_of_ble_eq_true rfl) (fun cu hcu => ?_)
    refine r_if_lt (tgt := 59) C dX6_widthOf_52 (by decide) (by omega) (fun hcu => ?_) (fun hcu => ?_)
    · skip
      refine r_iconst C dX6_widthOf_59 ?_
      refine r_iadd C dX6_widthOf_60 ?_
      exact hret _ _ _ _ dX6_widthOf_61 ⟨rfl, by unfold wfM wM widF; first | (refine Or.inl ⟨by omega, ?_⟩; rw [if_pos hr0, if_pos (Or.inl trivial)]) | (refine Or.inr ⟨by omega, ?_⟩; rw [if_pos hr0]; first | (rw [if_pos (Or.inr hbg)]; done) | (rw [if_neg (fun q => q.elim id hbg)]; done)) | (refine (hf.elim (fun h => Or.inr ⟨h, ?_⟩) (fun h => Or.inl ⟨h, ?_⟩)) <;> (rw [if_neg hr0]; unfold Pm; first | (rw [if_pos (by omega)]) | (rw [if_neg (by omega)])))⟩
    · skip
      refine r_iconst C dX6_widthOf_55 ?_
      refine r_goto (tgt := 60) C dX6_widthOf_56 (by decide) ?_
      refine r_iadd C dX6_widthOf_60 ?_
      exact hret _ _ _ _ dX6_widthOf_61 ⟨rfl, by unfold wfM wM widF; first | (refine Or.inl ⟨by omega, ?_⟩; rw [if_pos hr0, if_pos (Or.inl trivial)]) | (refine Or.inr ⟨by omega, ?_⟩; rw [if_pos hr0]; first | (rw [if_pos (Or.inr hbg)]; done) | (rw [if_neg (fun q => q.elim id hbg)]; done)) | (refine (hf.elim (fun h => Or.inr ⟨h, ?_⟩) (fun h => Or.inl ⟨h, ?_⟩)) <;> (rw [if_neg hr0]; unfold Pm; first | (rw [if_pos (by omega)]) | (rw [if_neg (by omega)])))⟩
end
section
def vlM (ρ : ST) (v k : Int) : Int := 100 * ρ 28 k + (1 + lenT (Pm ρ v) (Mm ρ) (ρ 18 18) (k + 1))
def rtM (ρ : ST) (v i : Int) : Int := restT (Pm ρ v) (Mm ρ) (vlM ρ v) (ρ 18 18) 0 i
set_option maxHeartbeats 4000000 in
set_option maxRecDepth 100000 in
theorem m_X6_rest {a : Nat → Nat} {n : Nat} {σ : ST} (hM : MS σ) {v i : Int} (hv1 : inR v) (hi1 : inR i) : MI yX6_rest cX6_rest 5 .int (RM 3 67) a n σ [.ref (a 18), iv v, iv i] (fun r σ1 => (((0 ≤ v ∧ v < σ 18 1) ∧ 0 ≤ i) ∧ ∃ ρ, FrM σ ρ ∧ RowOK (σ 20) (σ 18 0) (ρ 28) (ρ 18 18) ∧ ((0 ≤ rtM ρ v i ∧ r = rtM ρ v i ∧ σ1 = ρ) ∨ (rtM ρ v i = -1 ∧ r = -1000002 ∧ σ1 = fd ρ 27 2))) ∨ (¬ ((0 ≤ v ∧ v < σ 18 1) ∧ 0 ≤ i) ∧ r = -1000001 ∧ σ1 = fd σ 27 1)) := by
  refine MI.of (own := RX6) (by decide +kernel) rfl (Nat.le_of_ble_eq_true rfl) ?_
  intro κ C hret
  show J κ 0 0 a n σ [(0, .ref (a 18)), (1, iv v), (2, iv i)] 0 []
  obtain ⟨hb, hvn, hwt, hky, hdu, hwd, hli, hne, hse, hmk, hkd, hsh, hos, hpl, hld, hF, hlp, hpo⟩ := id hM
  refine r_aload_n C dX6_rest_0 0 rfl ?_
  refine r_iload_n C dX6_rest_1 1 rfl ?_
  refine r_callB1 18 C dX6_rest_2 lkX6_96 (m_X6_isVoice (by omega) (by omega)) ⟨rfl, rfl, Nat.le_of_ble_eq_true rfl, Nat.le_of_ble_eq_true rfl⟩ ⟨Nat.zero_le _, Nat.zero_le _⟩ rc18 (Nat.le_of_ble_eq_true rfl) (fun h1 => ?_) (fun h1 => ?_)
  · skip
    refine r_if_eq (tgt := 12) C dX6_rest_5 (by decide) (by decide) (fun q => absurd q (by decide)) (fun _ => ?_)
    refine r_iload_n C dX6_rest_8 2 rfl ?_
    refine r_if_ge (tgt := 18) C dX6_rest_9 (by decide) (by omega) (fun h3 => ?_) (fun h3 => ?_)
    · skip
      refine r_aload_n C dX6_rest_18 0 rfl ?_
      refine r_callV0 18 C dX6_rest_19 lkX6_116 (m_X6_findRow (by omega)) ⟨rfl, rfl, Nat.le_of_ble_eq_true rfl, Nat.le_of_ble_eq_true rfl⟩ ⟨Nat.zero_le _, Nat.zero_le _⟩ rc18 (Nat.le_of_ble_eq_true rfl) (fun ρ hr4 => ?_)
      obtain ⟨hfr, hro⟩ := hr4
      have hM2 := hfr.ms hM
      have hI := RowIn.of hro hb.1 hb.2
      have hrm := hI.2.1
      have hrm0 := hI.1
      have hf1 := hfr.2 1 (by decide)
      refine r_iload_n C dX6_rest_22 2 rfl ?_
      refine r_istore_n C dX6_rest_23 (by decide) (fun z_ => [(3, iv z_), (0, .ref (a 18)), (1, iv v), (2, iv i)]) (fun _ => rfl) (fun l0 el0 => ?_)
      refine r_iconst C dX6_rest_24 ?_
      refine r_istore C dX6_rest_25 (by decide) (fun z_ => [(4, iv z_), (3, iv l0), (0, .ref (a 18)), (1, iv v), (2, iv i)]) (fun _ => rfl) (fun k0 ek0 => ?_)
      have lp27 : ∀ (N : Nat) (lf : Int) (k : Int), (ρ 18 18 - k : Int) < N → (0 ≤ k ∧ k ≤ ρ 18 18 ∧ 0 ≤ lf ∧ lf ≤ i ∧ restT (Pm ρ v) (Mm ρ) (vlM ρ v) (ρ 18 18) k lf = rtM ρ v i) → J κ 0 0 a n ρ [(0, .ref (a 18)), (1, iv v), (2, iv i), (3, iv lf), (4, iv k)] 27 [] := by
        intro N
        induction N with
        | zero =>
          intro lf k hm27 hi27
          exact absurd hm27 (by omega)
        | succ N ih27 =>
          intro lf k hm27 hi27
          obtain ⟨hk1, hk2, hk3, hk4, hre⟩ := hi27
          refine r_iload C dX6_rest_27 4 rfl ?_
          refine r_aload_n C dX6_rest_29 0 rfl ?_
          refine gX6_106 C dX6_rest_30 (fun g5 => ?_)
          refine r_icmp_ge (tgt := 81) C dX6_rest_33 (by decide) (by omega) (by omega) (fun h6 => ?_) (fun h6 => ?_)
          · skip
            refine r_aload_n C dX6_rest_81 0 rfl ?_
            refine r_iconst C dX6_rest_82 ?_
            refine r_callI1 18 C dX6_rest_83 lkX6_92 (m_X6_finds (by omega) (MS.F (by assumption) _)) ⟨rfl, rfl, Nat.le_of_ble_eq_true rfl, Nat.le_of_ble_eq_true rfl⟩ ⟨Nat.zero_le _, Nat.zero_le _⟩ rc18 (Nat.le_of_ble_eq_true rfl) (fun r7 s8 hr7 => ?_)
            obtain ⟨er7, hr7⟩ := hr7
            exact hret _ _ _ _ dX6_rest_86 (Or.inl ⟨by omega, ρ, hfr, hro, Or.inr ⟨by rw [← hre, restT_e (by omega)], by omega, by assumption⟩⟩)
          · skip
            refine r_aload_n C dX6_rest_36 0 rfl ?_
            refine r_iload_n C dX6_rest_37 1 rfl ?_
            refine r_iload C dX6_rest_38 4 rfl ?_
            refine r_callB2 18 C dX6_rest_40 lkX6_113 (m_X6_begins hI (by omega) (by omega)) ⟨rfl, rfl, Nat.le_of_ble_eq_true rfl, Nat.le_of_ble_eq_true rfl⟩ ⟨Nat.zero_le _, Nat.zero_le _⟩ rc18 (Nat.le_of_ble_eq_true rfl) (fun hbg => ?_) (fun hbg => ?_)
            · skip
              refine r_if_ne (tgt := 49) C dX6_rest_43 (by decide) (by decide) (fun _ => ?_) (fun q => absurd q (by decide))
              refine r_iload_n C dX6_rest_49 3 rfl ?_
              refine r_if_ne (tgt := 72) C dX6_rest_50 (by decide) (by omega) (fun hl0 => ?_) (fun hl0 => ?_)
              · skip
                refine r_iinc C dX6_rest_72 (by decide) 3 rfl (fun z_ => [(3, iv z_), (0, .ref (a 18)), (1, iv v), (2, iv i), (4, iv k)]) (fun _ => rfl) (fun l2 el2 => ?_)
                refine r_iinc C dX6_rest_75 (by decide) 4 rfl (fun z_ => [(4, iv z_), (3, iv l2), (0, .ref (a 18)), (1, iv v), (2, iv i)]) (fun _ => rfl) (fun k2 ek2 => ?_)
                refine r_goto (tgt := 27) C dX6_rest_78 (by decide) ?_
                refine r_sub [2, 3, 4, 1, 0] (L' := [(0, .ref (a 18)), (1, iv v), (2, iv i), (3, iv l2), (4, iv k2)]) rfl ?_
                exact ih27 _ _ (by omega) (by subst ek2; subst el2; refine ⟨by omega, by omega, by omega, by omega, ?_⟩; rw [← hre, restT_s (show k < ρ 18 18 by omega), if_pos hbg, if_neg hl0, show lf + -1 = lf - 1 by omega])
              · skip
                have hri := hI.2.2 k (by omega) (by omega)
                have hlb := lenT_bd (P := Pm ρ v) (M := Mm ρ) (many := ρ 18 18) (j := k + 1) (by omega)
                refine r_bipush C dX6_rest_53 (by decide) ?_
                refine r_aload_n C dX6_rest_55 0 rfl ?_
                refine gX6_50 C dX6_rest_56 ?_
                refine r_iload C dX6_rest_59 4 rfl ?_
                refine r_iald 40 C dX6_rest_61 (by omega) (fun _ => rfl) (by omega) (by omega) (by decide) (fun g12 => ?_)
                refine r_imul C dX6_rest_62 ?_
                refine r_aload_n C dX6_rest_63 0 rfl ?_
                refine r_iload_n C dX6_rest_64 1 rfl ?_
                refine r_iload C dX6_rest_65 4 rfl ?_
                refine r_callP2 18 C dX6_rest_67 lkX6_119 (m_X6_restsFrom hI (by omega) (by omega)) ⟨rfl, rfl, Nat.le_of_ble_eq_true rfl, Nat.le_of_ble_eq_true rfl⟩ ⟨Nat.zero_le _, Nat.zero_le _⟩ rc18 (Nat.le_of_ble_eq_true rfl) (fun cu hcu => ?_)
                refine r_iadd C dX6_rest_70 ?_
                exact hret _ _ _ _ dX6_rest_71 (by rw [restT_s (show k < ρ 18 18 by omega), if_pos hbg, if_pos hl0] at hre; exact Or.inl ⟨by omega, ρ, hfr, hro, Or.inl ⟨by rw [← hre]; unfold vlM; omega, by rw [← hre]; unfold vlM; omega, rfl⟩⟩)
            · skip
              refine r_if_ne (tgt := 49) C dX6_rest_43 (by decide) (by decide) (fun q => absurd q (by decide)) (fun _ => ?_)
              refine r_goto (tgt := 75) C dX6_rest_46 (by decide) ?_
              refine r_iinc C dX6_rest_75 (by decide) 4 rfl (fun z_ => [(4, iv z_), (0, .ref (a 18)), (1, iv v), (2, iv i), (3, iv lf)]) (fun _ => rfl) (fun k2 ek2 => ?_)
              refine r_goto (tgt := 27) C dX6_rest_78 (by decide) ?_
              refine r_sub [1, 2, 3, 4, 0] (L' := [(0, .ref (a 18)), (1, iv v), (2, iv i), (3, iv lf), (4, iv k2)]) rfl ?_
              exact ih27 _ _ (by omega) (by subst ek2; refine ⟨by omega, by omega, by omega, by omega, ?_⟩; rw [← hre, restT_s (show k < ρ 18 18 by omega), if_neg hbg])
      refine r_sub [2, 3, 4, 1, 0] (L' := [(0, .ref (a 18)), (1, iv v), (2, iv i), (3, iv l0), (4, iv k0)]) rfl ?_
      exact lp27 ((ρ 18 18 : Int).toNat + 1) _ _ (by omega) (by subst el0; subst ek0; exact ⟨by omega, by omega, by omega, by omega, rfl⟩)
    · skip
      refine r_aload_n C dX6_rest_12 0 rfl ?_
      refine r_iconst C dX6_rest_13 ?_
      refine r_callI1 18 C dX6_rest_14 lkX6_92 (m_X6_finds (by omega) (MS.F (by assumption) _)) ⟨rfl, rfl, Nat.le_of_ble_eq_true rfl, Nat.le_of_ble_eq_true rfl⟩ ⟨Nat.zero_le _, Nat.zero_le _⟩ rc18 (Nat.le_of_ble_eq_true rfl) (fun r14 s15 hr14 => ?_)
      obtain ⟨er14, hr14⟩ := hr14
      exact hret _ _ _ _ dX6_rest_17 (by refine Or.inr ⟨?_, ?_, ?_⟩ <;> first | omega | assumption)
  · skip
    refine r_if_eq (tgt := 12) C dX6_rest_5 (by decide) (by decide) (fun _ => ?_) (fun q => absurd q (by decide))
    refine r_aload_n C dX6_rest_12 0 rfl ?_
    refine r_iconst C dX6_rest_13 ?_
    refine r_callI1 18 C dX6_rest_14 lkX6_92 (m_X6_finds (by omega) (MS.F (by assumption) _)) ⟨rfl, rfl, Nat.le_of_ble_eq_true rfl, Nat.le_of_ble_eq_true rfl⟩ ⟨Nat.zero_le _, Nat.zero_le _⟩ rc18 (Nat.le_of_ble_eq_true rfl) (fun r17 s18 hr17 => ?_)
    obtain ⟨er17, hr17⟩ := hr17
    exact hret _ _ _ _ dX6_rest_17 (by refine Or.inr ⟨?_, ?_, ?_⟩ <;> first | omega | assumption)

set_option maxHeartbeats 4000000 in
set_option maxRecDepth 100000 in
theorem m_X6_cue {a : Nat → Nat} {n : Nat} {σ : ST} (hM : MS σ) {v b : Int} (hv1 : inR v) (hb1 : inR b) : MI yX6_cue cX6_cue 4 .int (RM 2 48) a n σ [.ref (a 18), iv v, iv b] (fun r σ1 => (((0 ≤ v ∧ v < σ 18 1) ∧ 0 ≤ b ∧ b < σ 18 0) ∧ ∃ ρ, FrM σ ρ ∧ RowOK (σ 20) (σ 18 0) (ρ 28) (ρ 18 18) ∧ ((∃ k, 0 ≤ k ∧ k < ρ 18 18 ∧ ρ 28 k = b ∧ 0 ≤ cueM ρ v k ∧ r = cueM ρ v k ∧ σ1 = ρ) ∨ ((∀ k, 0 ≤ k → k < ρ 18 18 → ρ 28 k = b → cueM ρ v k < 0) ∧ r = -1000002 ∧ σ1 = fd ρ 27 2))) ∨ (¬ ((0 ≤ v ∧ v < σ 18 1) ∧ 0 ≤ b ∧ b < σ 18 0) ∧ r = -1000001 ∧ σ1 = fd σ 27 1)) := by
  refine MI.of (own := RX6) (by decide +kernel) rfl (Nat.le_of_ble_eq_true rfl) ?_
  intro κ C hret
  show J κ 0 0 a n σ [(0, .ref (a 18)), (1, iv v), (2, iv b)] 0 []
  obtain ⟨hb, hvn, hwt, hky, hdu, hwd, hli, hne, hse, hmk, hkd, hsh, hos, hpl, hld, hF, hlp, hpo⟩ := id hM
  refine r_aload_n C dX6_cue_0 0 rfl ?_
  refine r_iload_n C dX6_cue_1 1 rfl ?_
  refine r_callB1 18 C dX6_cue_2 lkX6_96 (m_X6_isVoice (by omega) (by omega)) ⟨rfl, rfl, Nat.le_of_ble_eq_true rfl, Nat.le_of_ble_eq_true rfl⟩ ⟨Nat.zero_le _, Nat.zero_le _⟩ rc18 (Nat.le_of_ble_eq_true rfl) (fun h1 => ?_) (fun h1 => ?_)
  · skip
    refine r_if_eq (tgt := 16) C dX6_cue_5 (by decide) (by decide) (fun q => absurd q (by decide)) (fun _ => ?_)
    refine r_aload_n C dX6_cue_8 0 rfl ?_
    refine r_iload_n C dX6_cue_9 2 rfl ?_
    refine r_callB1 18 C dX6_cue_10 lkX6_100 (m_X6_isBar (by omega) (by omega)) ⟨rfl, rfl, Nat.le_of_ble_eq_true rfl, Nat.le_of_ble_eq_true rfl⟩ ⟨Nat.zero_le _, Nat.zero_le _⟩ rc18 (Nat.le_of_ble_eq_true rfl) (fun h3 => ?_) (fun h3 => ?_)
    · skip
      refine r_if_ne (tgt := 22) C dX6_cue_13 (by decide) (by decide) (fun _ => ?_) (fun q => absurd q (by decide))
      refine r_aload_n C dX6_cue_22 0 rfl ?_
      refine r_callV0 18 C dX6_cue_23 lkX6_116 (m_X6_findRow (by omega)) ⟨rfl, rfl, Nat.le_of_ble_eq_true rfl, Nat.le_of_ble_eq_true rfl⟩ ⟨Nat.zero_le _, Nat.zero_le _⟩ rc18 (Nat.le_of_ble_eq_true rfl) (fun ρ hr5 => ?_)
      obtain ⟨hfr, hro⟩ := hr5
      have hM2 := hfr.ms hM
      have hI := RowIn.of hro hb.1 hb.2
      have hrm := hI.2.1
      have hrm0 := hI.1
      have hf1 := hfr.2 1 (by decide)
      refine r_iconst C dX6_cue_26 ?_
      refine r_istore_n C dX6_cue_27 (by decide) (fun z_ => [(3, iv z_), (0, .ref (a 18)), (1, iv v), (2, iv b)]) (fun _ => rfl) (fun i0 ei0 => ?_)
      have lp28 : ∀ (N : Nat) (i : Int), (ρ 18 18 - i : Int) < N → (0 ≤ i ∧ i ≤ ρ 18 18 ∧ ∀ k, 0 ≤ k → k < i → ρ 28 k = b → cueM ρ v k < 0) → J κ 0 0 a n ρ [(0, .ref (a 18)), (1, iv v), (2, iv b), (3, iv i)] 28 [] := by
        intro N
        induction N with
        | zero =>
          intro i hm28 hi28
          exact absurd hm28 (by omega)
        | succ N ih28 =>
          intro i hm28 hi28
          obtain ⟨hk1, hk2, hk3⟩ := hi28
          refine r_iload_n C dX6_cue_28 3 rfl ?_
          refine r_aload_n C dX6_cue_29 0 rfl ?_
          refine gX6_106 C dX6_cue_30 (fun g6 => ?_)
          refine r_icmp_ge (tgt := 68) C dX6_cue_33 (by decide) (by omega) (by omega) (fun h7 => ?_) (fun h7 => ?_)
          · skip
            refine r_aload_n C dX6_cue_68 0 rfl ?_
            refine r_iconst C dX6_cue_69 ?_
            refine r_callI1 18 C dX6_cue_70 lkX6_92 (m_X6_finds (by omega) (MS.F (by assumption) _)) ⟨rfl, rfl, Nat.le_of_ble_eq_true rfl, Nat.le_of_ble_eq_true rfl⟩ ⟨Nat.zero_le _, Nat.zero_le _⟩ rc18 (Nat.le_of_ble_eq_true rfl) (fun r8 s9 hr8 => ?_)
            obtain ⟨er8, hr8⟩ := hr8
            exact hret _ _ _ _ dX6_cue_73 (by first | (refine Or.inr ⟨?_, ?_, ?_⟩ <;> first | omega | assumption) | exact Or.inl ⟨by omega, ρ, hfr, hro, Or.inr ⟨fun k h1 h2 h3 => hk3 k h1 (by omega) h3, by omega, by assumption⟩⟩ | exact Or.inl ⟨by omega, ρ, hfr, hro, Or.inl ⟨i, by omega, by omega, by assumption, by omega, by assumption, rfl⟩⟩)
          · skip
            refine r_aload_n C dX6_cue_36 0 rfl ?_
            refine gX6_50 C dX6_cue_37 ?_
            refine r_iload_n C dX6_cue_40 3 rfl ?_
            refine r_iald 40 C dX6_cue_41 (by omega) (fun _ => rfl) (by omega) (by omega) (by decide) (fun g11 => ?_)
            refine r_iload_n C dX6_cue_42 2 rfl ?_
            refine r_icmp_ne (tgt := 62) C dX6_cue_43 (by decide) (by omega) (by omega) (fun hrb => ?_) (fun hrb => ?_)
            · skip
              refine r_iinc C dX6_cue_62 (by decide) 3 rfl (fun z_ => [(3, iv z_), (0, .ref (a 18)), (1, iv v), (2, iv b)]) (fun _ => rfl) (fun i2 ei2 => ?_)
              refine r_goto (tgt := 28) C dX6_cue_65 (by decide) ?_
              refine r_sub [1, 2, 3, 0] (L' := [(0, .ref (a 18)), (1, iv v), (2, iv b), (3, iv i2)]) rfl ?_
              exact ih28 _ (by omega) (by subst ei2; refine ⟨by omega, by omega, fun k h1 h2 h3 => ?_⟩; by_cases hki : k = i; (subst hki; first | omega | exact absurd h3 hrb); exact hk3 k h1 (by omega) h3)
            · skip
              have hcb := cueM_bd (v := v) (i := i) hM2
              refine r_aload_n C dX6_cue_46 0 rfl ?_
              refine r_iload_n C dX6_cue_47 1 rfl ?_
              refine r_iload_n C dX6_cue_48 3 rfl ?_
              refine r_callP2 18 C dX6_cue_49 lkX6_123 (m_X6_cueAt (by assumption) hI (by omega) (by omega)) ⟨rfl, rfl, Nat.le_of_ble_eq_true rfl, Nat.le_of_ble_eq_true rfl⟩ ⟨Nat.zero_le _, Nat.zero_le _⟩ rc18 (Nat.le_of_ble_eq_true rfl) (fun cu hcu => ?_)
              refine r_if_lt (tgt := 62) C dX6_cue_52 (by decide) (by omega) (fun hcl => ?_) (fun hcl => ?_)
              · skip
                refine r_iinc C dX6_cue_62 (by decide) 3 rfl (fun z_ => [(3, iv z_), (0, .ref (a 18)), (1, iv v), (2, iv b)]) (fun _ => rfl) (fun i2 ei2 => ?_)
                refine r_goto (tgt := 28) C dX6_cue_65 (by decide) ?_
                refine r_sub [1, 2, 3, 0] (L' := [(0, .ref (a 18)), (1, iv v), (2, iv b), (3, iv i2)]) rfl ?_
                exact ih28 _ (by omega) (by subst ei2; refine ⟨by omega, by omega, fun k h1 h2 h3 => ?_⟩; by_cases hki : k = i; (subst hki; first | omega | exact absurd h3 hrb); exact hk3 k h1 (by omega) h3)
              · skip
                refine r_aload_n C dX6_cue_55 0 rfl ?_
                refine r_iload_n C dX6_cue_56 1 rfl ?_
                refine r_iload_n C dX6_cue_57 3 rfl ?_
                refine r_callP2 18 C dX6_cue_58 lkX6_123 (m_X6_cueAt (by assumption) hI (by omega) (by omega)) ⟨rfl, rfl, Nat.le_of_ble_eq_true rfl, Nat.le_of_ble_eq_true rfl⟩ ⟨Nat.zero_le _, Nat.zero_le _⟩ rc18 (Nat.le_of_ble_eq_true rfl) (fun cv hcv => ?_)
                exact hret _ _ _ _ dX6_cue_61 (by first | (refine Or.inr ⟨?_, ?_, ?_⟩ <;> first | omega | assumption) | exact Or.inl ⟨by omega, ρ, hfr, hro, Or.inr ⟨fun k h1 h2 h3 => hk3 k h1 (by omega) h3, by omega, by assumption⟩⟩ | exact Or.inl ⟨by omega, ρ, hfr, hro, Or.inl ⟨i, by omega, by omega, by assumption, by omega, by assumption, rfl⟩⟩)
      refine r_sub [1, 2, 3, 0] (L' := [(0, .ref (a 18)), (1, iv v), (2, iv b), (3, iv i0)]) rfl ?_
      exact lp28 ((ρ 18 18 : Int).toNat + 1) _ (by omega) (by subst ei0; exact ⟨by omega, by omega, fun k h1 h2 => by omega⟩)
    · skip
      refine r_if_ne (tgt := 22) C dX6_cue_13 (by decide) (by decide) (fun q => absurd q (by decide)) (fun _ => ?_)
      refine r_aload_n C dX6_cue_16 0 rfl ?_
      refine r_iconst C dX6_cue_17 ?_
      refine r_callI1 18 C dX6_cue_18 lkX6_92 (m_X6_finds (by omega) (MS.F (by assumption) _)) ⟨rfl, rfl, Nat.le_of_ble_eq_true rfl, Nat.le_of_ble_eq_true rfl⟩ ⟨Nat.zero_le _, Nat.zero_le _⟩ rc18 (Nat.le_of_ble_eq_true rfl) (fun r15 s16 hr15 => ?_)
      obtain ⟨er15, hr15⟩ := hr15
      exact hret _ _ _ _ dX6_cue_21 (by first | (refine Or.inr ⟨?_, ?_, ?_⟩ <;> first | omega | assumption) | exact Or.inl ⟨by omega, ρ, hfr, hro, Or.inr ⟨fun k h1 h2 h3 => hk3 k h1 (by omega) h3, by omega, by assumption⟩⟩ | exact Or.inl ⟨by omega, ρ, hfr, hro, Or.inl ⟨i, by omega, by omega, by assumption, by omega, by assumption, rfl⟩⟩)
  · skip
    refine r_if_eq (tgt := 16) C dX6_cue_5 (by decide) (by decide) (fun _ => ?_) (fun q => absurd q (by decide))
    refine r_aload_n C dX6_cue_16 0 rfl ?_
    refine r_iconst C dX6_cue_17 ?_
    refine r_callI1 18 C dX6_cue_18 lkX6_92 (m_X6_finds (by omega) (MS.F (by assumption) _)) ⟨rfl, rfl, Nat.le_of_ble_eq_true rfl, Nat.le_of_ble_eq_true rfl⟩ ⟨Nat.zero_le _, Nat.zero_le _⟩ rc18 (Nat.le_of_ble_eq_true rfl) (fun r18 s19 hr18 => ?_)
    obtain ⟨er18, hr18⟩ := hr18
    exact hret _ _ _ _ dX6_cue_21 (by first | (refine Or.inr ⟨?_, ?_, ?_⟩ <;> first | omega | assumption) | exact Or.inl ⟨by omega, ρ, hfr, hro, Or.inr ⟨fun k h1 h2 h3 => hk3 k h1 (by omega) h3, by omega, by assumption⟩⟩ | exact Or.inl ⟨by omega, ρ, hfr, hro, Or.inl ⟨i, by omega, by omega, by assumption, by omega, by assumption, rfl⟩⟩)

theorem sys_fit {w wf : Int → Int} {wide x i nn fl own : Int} (h : (nn, fl) = sysF w wf wide x (i - x).toNat) (hx : x ≤ i) (ho : own = if i = x then wf i else w i) (hle : ¬ wide < fl + own) : (nn, fl + own) = sysF w wf wide x (i + 1 - x).toNat := by
  rw [sysF_s _ _ _ _ hx, ← h, ← ho, if_neg (by simp only; omega)]
theorem sys_new {w wf : Int → Int} {wide x i nn fl own o2 : Int} (h : (nn, fl) = sysF w wf wide x (i - x).toNat) (hx : x ≤ i) (ho : own = if i = x then wf i else w i) (hlt : wide < fl + own) (h2 : o2 = wf i) : (nn + 1, 0 + o2) = sysF w wf wide x (i + 1 - x).toNat := by
  rw [sysF_s _ _ _ _ hx, ← h, ← ho, if_pos (by simp only; omega), h2, Int.zero_add]
set_option maxHeartbeats 4000000 in
set_option maxRecDepth 100000 in
theorem m_X6_systemsOf {a : Nat → Nat} {n : Nat} {σ : ST} {v x y : Int} (hM : MS σ) (hI : RowIn σ) (hv : 0 ≤ v ∧ v < 6) (hxy : 0 ≤ x ∧ x ≤ y ∧ y ≤ σ 18 18) : MP yX6_systemsOf cX6_systemsOf 9 .int (RM 3 71) a n σ [.ref (a 18), iv v, iv x, iv y] (fun r => r = syM σ v x (y - x)) := by
  refine MI.of (own := RX6) (by decide +kernel) rfl (Nat.le_of_ble_eq_true rfl) ?_
  intro κ C hret
  show J κ 0 0 a n σ [(0, .ref (a 18)), (1, iv v), (2, iv x), (3, iv y)] 0 []
  obtain ⟨hb, hvn, hwt, hky, hdu, hwd, hli, hne, hse, hmk, hkd, hsh, hos, hpl, hld, hF, hlp, hpo⟩ := id hM
  have hrm := hI.2.1
  refine r_iconst C dX6_systemsOf_0 ?_
  refine r_istore C dX6_systemsOf_1 (by decide) (fun z_ => [(4, iv z_), (0, .ref (a 18)), (1, iv v), (2, iv x), (3, iv y)]) (fun _ => rfl) (fun n0 en0 => ?_)
  refine r_iconst C dX6_systemsOf_3 ?_
  refine r_istore C dX6_systemsOf_4 (by decide) (fun z_ => [(5, iv z_), (4, iv n0), (0, .ref (a 18)), (1, iv v), (2, iv x), (3, iv y)]) (fun _ => rfl) (fun f0 ef0 => ?_)
  refine r_iload_n C dX6_systemsOf_6 4 rfl ?_
  refine r_istore C dX6_systemsOf_7 (by decide) (fun z_ => [(6, iv z_), (5, iv f0), (4, iv n0), (0, .ref (a 18)), (1, iv v), (2, iv x), (3, iv y)]) (fun _ => rfl) (fun i0 ei0 => ?_)
  have lp9 : ∀ (N : Nat) (nn : Int) (fl : Int) (i : Int), (y - i : Int) < N → (x ≤ i ∧ i ≤ y ∧ (nn, fl) = sysF (wM σ v) (wfM σ v) (σ 18 5) x (i - x).toNat) → J κ 0 0 a n σ [(0, .ref (a 18)), (1, iv v), (2, iv x), (3, iv y), (4, iv nn), (5, iv fl), (6, iv i)] 9 [] := by
    intro N
    induction N with
    | zero =>
      intro nn fl i hm9 hi9
      exact absurd hm9 (by omega)
    | succ N ih9 =>
      intro nn fl i hm9 hi9
      obtain ⟨hi1, hi2, hsy⟩ := hi9
      have hsb := sysF_bd (wM σ v) (wfM σ v) (σ 18 5) x (wM_bd hM) (wfM_bd hM) (i - x).toNat
      rw [← hsy] at hsb
      simp only at hsb
      have hwb := wM_bd (v := v) hM i
      have hwfb := wfM_bd (v := v) hM i
      refine r_iload C dX6_systemsOf_9 6 rfl ?_
      refine r_iload_n C dX6_systemsOf_11 3 rfl ?_
      refine r_icmp_ge (tgt := 80) C dX6_systemsOf_12 (by decide) (by omega) (by omega) (fun h1 => ?_) (fun h1 => ?_)
      · skip
        refine r_iload C dX6_systemsOf_80 4 rfl ?_
        exact hret _ _ _ _ dX6_systemsOf_82 ⟨rfl, by unfold syM; rw [show y = i by omega, ← hsy]⟩
      · skip
        refine r_iload C dX6_systemsOf_15 6 rfl ?_
        refine r_iload_n C dX6_systemsOf_17 2 rfl ?_
        refine r_icmp_ne (tgt := 25) C dX6_systemsOf_18 (by decide) (by omega) (by omega) (fun hix => ?_) (fun hix => ?_)
        · skip
          refine r_iconst C dX6_systemsOf_25 ?_
          refine r_istore C dX6_systemsOf_26 (by decide) (fun z_ => [(7, iv z_), (0, .ref (a 18)), (1, iv v), (2, iv x), (3, iv y), (4, iv nn), (5, iv fl), (6, iv i)]) (fun _ => rfl) (fun fi efi => ?_)
          refine r_aload_n C dX6_systemsOf_28 1 rfl ?_
          refine r_iload_n C dX6_systemsOf_29 2 rfl ?_
          refine r_iload C dX6_systemsOf_30 7 rfl ?_
          refine r_iload C dX6_systemsOf_32 0 rfl ?_
          refine r_callP3 18 C dX6_systemsOf_34 lkX6_129 (m_X6_widthOf (by assumption) hI (by omega) (by omega) (by omega)) ⟨rfl, rfl, Nat.le_of_ble_eq_true rfl, Nat.le_of_ble_eq_true rfl⟩ ⟨Nat.zero_le _, Nat.zero_le _⟩ rc18 (Nat.le_of_ble_eq_true rfl) (fun w1 hw1 => ?_)
          refine r_istore C dX6_systemsOf_37 (by decide) (fun z_ => [(8, iv z_), (7, iv fi), (0, .ref (a 18)), (1, iv v), (2, iv x), (3, iv y), (4, iv nn), (5, iv fl), (6, iv i)]) (fun _ => rfl) (fun ow eow => ?_)
          refine r_iload C dX6_systemsOf_39 7 rfl ?_
          refine r_iload C dX6_systemsOf_41 0 rfl ?_
          refine r_iadd C dX6_systemsOf_43 ?_
          refine r_aload_n C dX6_systemsOf_44 2 rfl ?_
          refine gX6_13 C dX6_systemsOf_45 (fun g3 => ?_)
          refine r_icmp_le (tgt := 67) C dX6_systemsOf_48 (by decide) (by omega) (by omega) (fun hwi => ?_) (fun hwi => ?_)
          · skip
            refine r_iload C dX6_systemsOf_67 7 rfl ?_
            refine r_iload C dX6_systemsOf_69 0 rfl ?_
            refine r_iadd C dX6_systemsOf_71 ?_
            refine r_istore C dX6_systemsOf_72 (by decide) (fun z_ => [(5, iv z_), (8, iv ow), (7, iv fi), (0, .ref (a 18)), (1, iv v), (2, iv x), (3, iv y), (4, iv nn), (6, iv i)]) (fun _ => rfl) (fun f2 ef2 => ?_)
            refine r_iinc C dX6_systemsOf_74 (by decide) 8 rfl (fun z_ => [(6, iv z_), (5, iv f2), (8, iv ow), (7, iv fi), (0, .ref (a 18)), (1, iv v), (2, iv x), (3, iv y), (4, iv nn)]) (fun _ => rfl) (fun i2 ei2 => ?_)
            refine r_goto (tgt := 9) C dX6_systemsOf_77 (by decide) ?_
            refine r_sub [4, 5, 6, 7, 8, 1, 0] (L' := [(0, .ref (a 18)), (1, iv v), (2, iv x), (3, iv y), (4, iv nn), (5, iv f2), (6, iv i2)]) rfl ?_
            exact ih9 _ _ _ (by omega) (by subst ei2; refine ⟨by omega, by omega, ?_⟩; have hob : ow = if i = x then wfM σ v i else wM σ v i := (by first | (rw [if_pos hix]; omega) | (rw [if_neg hix]; omega)); first | (subst ef2; exact sys_fit hsy hi1 hob (by omega)) | (subst ef2; subst ef1; subst en2; exact sys_new hsy hi1 hob (by omega) (by omega)))
          · skip
            refine r_iinc C dX6_systemsOf_51 (by decide) 6 rfl (fun z_ => [(4, iv z_), (8, iv ow), (7, iv fi), (0, .ref (a 18)), (1, iv v), (2, iv x), (3, iv y), (5, iv fl), (6, iv i)]) (fun _ => rfl) (fun n2 en2 => ?_)
            refine r_iconst C dX6_systemsOf_54 ?_
            refine r_istore C dX6_systemsOf_55 (by decide) (fun z_ => [(5, iv z_), (4, iv n2), (8, iv ow), (7, iv fi), (0, .ref (a 18)), (1, iv v), (2, iv x), (3, iv y), (6, iv i)]) (fun _ => rfl) (fun f1 ef1 => ?_)
            refine r_aload_n C dX6_systemsOf_57 4 rfl ?_
            refine r_iload_n C dX6_systemsOf_58 5 rfl ?_
            refine r_iload C dX6_systemsOf_59 8 rfl ?_
            refine r_iconst C dX6_systemsOf_61 ?_
            refine r_callP3 18 C dX6_systemsOf_62 lkX6_129 (m_X6_widthOf (by assumption) hI (by omega) (by omega) (by omega)) ⟨rfl, rfl, Nat.le_of_ble_eq_true rfl, Nat.le_of_ble_eq_true rfl⟩ ⟨Nat.zero_le _, Nat.zero_le _⟩ rc18 (Nat.le_of_ble_eq_true rfl) (fun w2 hw2 => ?_)
            refine r_istore C dX6_systemsOf_65 (by decide) (fun z_ => [(8, iv z_), (5, iv f1), (4, iv n2), (7, iv fi), (0, .ref (a 18)), (1, iv v), (2, iv x), (3, iv y), (6, iv i)]) (fun _ => rfl) (fun o1 eo1 => ?_)
            refine r_iload C dX6_systemsOf_67 1 rfl ?_
            refine r_iload C dX6_systemsOf_69 0 rfl ?_
            refine r_iadd C dX6_systemsOf_71 ?_
            refine r_istore C dX6_systemsOf_72 (by decide) (fun z_ => [(5, iv z_), (8, iv o1), (4, iv n2), (7, iv fi), (0, .ref (a 18)), (1, iv v), (2, iv x), (3, iv y), (6, iv i)]) (fun _ => rfl) (fun f2 ef2 => ?_)
            refine r_iinc C dX6_systemsOf_74 (by decide) 8 rfl (fun z_ => [(6, iv z_), (5, iv f2), (8, iv o1), (4, iv n2), (7, iv fi), (0, .ref (a 18)), (1, iv v), (2, iv x), (3, iv y)]) (fun _ => rfl) (fun i2 ei2 => ?_)
            refine r_goto (tgt := 9) C dX6_systemsOf_77 (by decide) ?_
            refine r_sub [5, 6, 7, 8, 3, 1, 0] (L' := [(0, .ref (a 18)), (1, iv v), (2, iv x), (3, iv y), (4, iv n2), (5, iv f2), (6, iv i2)]) rfl ?_
            exact ih9 _ _ _ (by omega) (by subst ei2; refine ⟨by omega, by omega, ?_⟩; have hob : ow = if i = x then wfM σ v i else wM σ v i := (by first | (rw [if_pos hix]; omega) | (rw [if_neg hix]; omega)); first | (subst ef2; exact sys_fit hsy hi1 hob (by omega)) | (subst ef2; subst ef1; subst en2; exact sys_new hsy hi1 hob (by omega) (by omega)))
        · skip
          refine r_iconst C dX6_systemsOf_21 ?_
          refine r_goto (tgt := 26) C dX6_systemsOf_22 (by decide) ?_
          refine r_istore C dX6_systemsOf_26 (by decide) (fun z_ => [(7, iv z_), (0, .ref (a 18)), (1, iv v), (2, iv x), (3, iv y), (4, iv nn), (5, iv fl), (6, iv i)]) (fun _ => rfl) (fun fi efi => ?_)
          refine r_aload_n C dX6_systemsOf_28 1 rfl ?_
          refine r_iload_n C dX6_systemsOf_29 2 rfl ?_
          refine r_iload C dX6_systemsOf_30 7 rfl ?_
          refine r_iload C dX6_systemsOf_32 0 rfl ?_
          refine r_callP3 18 C dX6_systemsOf_34 lkX6_129 (m_X6_widthOf (by assumption) hI (by omega) (by omega) (by omega)) ⟨rfl, rfl, Nat.le_of_ble_eq_true rfl, Nat.le_of_ble_eq_true rfl⟩ ⟨Nat.zero_le _, Nat.zero_le _⟩ rc18 (Nat.le_of_ble_eq_true rfl) (fun w1 hw1 => ?_)
          refine r_istore C dX6_systemsOf_37 (by decide) (fun z_ => [(8, iv z_), (7, iv fi), (0, .ref (a 18)), (1, iv v), (2, iv x), (3, iv y), (4, iv nn), (5, iv fl), (6, iv i)]) (fun _ => rfl) (fun ow eow => ?_)
          refine r_iload C dX6_systemsOf_39 7 rfl ?_
          refine r_iload C dX6_systemsOf_41 0 rfl ?_
          refine r_iadd C dX6_systemsOf_43 ?_
          refine r_aload_n C dX6_systemsOf_44 2 rfl ?_
          refine gX6_13 C dX6_systemsOf_45 (fun g5 => ?_)
          refine r_icmp_le (tgt := 67) C dX6_systemsOf_48 (by decide) (by omega) (by omega) (fun hwi => ?_) (fun hwi => ?_)
          · skip
            refine r_iload C dX6_systemsOf_67 7 rfl ?_
            refine r_iload C dX6_systemsOf_69 0 rfl ?_
            refine r_iadd C dX6_systemsOf_71 ?_
            refine r_istore C dX6_systemsOf_72 (by decide) (fun z_ => [(5, iv z_), (8, iv ow), (7, iv fi), (0, .ref (a 18)), (1, iv v), (2, iv x), (3, iv y), (4, iv nn), (6, iv i)]) (fun _ => rfl) (fun f2 ef2 => ?_)
            refine r_iinc C dX6_systemsOf_74 (by decide) 8 rfl (fun z_ => [(6, iv z_), (5, iv f2), (8, iv ow), (7, iv fi), (0, .ref (a 18)), (1, iv v), (2, iv x), (3, iv y), (4, iv nn)]) (fun _ => rfl) (fun i2 ei2 => ?_)
            refine r_goto (tgt := 9) C dX6_systemsOf_77 (by decide) ?_
            refine r_sub [4, 5, 6, 7, 8, 1, 0] (L' := [(0, .ref (a 18)), (1, iv v), (2, iv x), (3, iv y), (4, iv nn), (5, iv f2), (6, iv i2)]) rfl ?_
            exact ih9 _ _ _ (by omega) (by subst ei2; refine ⟨by omega, by omega, ?_⟩; have hob : ow = if i = x then wfM σ v i else wM σ v i := (by first | (rw [if_pos hix]; omega) | (rw [if_neg hix]; omega)); first | (subst ef2; exact sys_fit hsy hi1 hob (by omega)) | (subst ef2; subst ef1; subst en2; exact sys_new hsy hi1 hob (by omega) (by omega)))
          · skip
            refine r_iinc C dX6_systemsOf_51 (by decide) 6 rfl (fun z_ => [(4, iv z_), (8, iv ow), (7, iv fi), (0, .ref (a 18)), (1, iv v), (2, iv x), (3, iv y), (5, iv fl), (6, iv i)]) (fun _ => rfl) (fun n2 en2 => ?_)
            refine r_iconst C dX6_systemsOf_54 ?_
            refine r_istore C dX6_systemsOf_55 (by decide) (fun z_ => [(5, iv z_), (4, iv n2), (8, iv ow), (7, iv fi), (0, .ref (a 18)), (1, iv v), (2, iv x), (3, iv y), (6, iv i)]) (fun _ => rfl) (fun f1 ef1 => ?_)
            refine r_aload_n C dX6_systemsOf_57 4 rfl ?_
            refine r_iload_n C dX6_systemsOf_58 5 rfl ?_
            refine r_iload C dX6_systemsOf_59 8 rfl ?_
            refine r_iconst C dX6_systemsOf_61 ?_
            refine r_callP3 18 C dX6_systemsOf_62 lkX6_129 (m_X6_widthOf (by assumption) hI (by omega) (by omega) (by omega)) ⟨rfl, rfl, Nat.le_of_ble_eq_true rfl, Nat.le_of_ble_eq_true rfl⟩ ⟨Nat.zero_le _, Nat.zero_le _⟩ rc18 (Nat.le_of_ble_eq_true rfl) (fun w2 hw2 => ?_)
            refine r_istore C dX6_systemsOf_65 (by decide) (fun z_ => [(8, iv z_), (5, iv f1), (4, iv n2), (7, iv fi), (0, .ref (a 18)), (1, iv v), (2, iv x), (3, iv y), (6, iv i)]) (fun _ => rfl) (fun o1 eo1 => ?_)
            refine r_iload C dX6_systemsOf_67 1 rfl ?_
            refine r_iload C dX6_systemsOf_69 0 rfl ?_
            refine r_iadd C dX6_systemsOf_71 ?_
            refine r_istore C dX6_systemsOf_72 (by decide) (fun z_ => [(5, iv z_), (8, iv o1), (4, iv n2), (7, iv fi), (0, .ref (a 18)), (1, iv v), (2, iv x), (3, iv y), (6, iv i)]) (fun _ => rfl) (fun f2 ef2 => ?_)
            refine r_iinc C dX6_systemsOf_74 (by decide) 8 rfl (fun z_ => [(6, iv z_), (5, iv f2), (8, iv o1), (4, iv n2), (7, iv fi), (0, .ref (a 18)), (1, iv v), (2, iv x), (3, iv y)]) (fun _ => rfl) (fun i2 ei2 => ?_)
            refine r_goto (tgt := 9) C dX6_systemsOf_77 (by decide) ?_
            refine r_sub [5, 6, 7, 8, 3, 1, 0] (L' := [(0, .ref (a 18)), (1, iv v), (2, iv x), (3, iv y), (4, iv n2), (5, iv f2), (6, iv i2)]) rfl ?_
            exact ih9 _ _ _ (by omega) (by subst ei2; refine ⟨by omega, by omega, ?_⟩; have hob : ow = if i = x then wfM σ v i else wM σ v i := (by first | (rw [if_pos hix]; omega) | (rw [if_neg hix]; omega)); first | (subst ef2; exact sys_fit hsy hi1 hob (by omega)) | (subst ef2; subst ef1; subst en2; exact sys_new hsy hi1 hob (by omega) (by omega)))
  refine r_sub [3, 4, 5, 6, 2, 1, 0] (L' := [(0, .ref (a 18)), (1, iv v), (2, iv x), (3, iv y), (4, iv n0), (5, iv f0), (6, iv i0)]) rfl ?_
  exact lp9 ((y - x : Int).toNat + 1) _ _ _ (by omega) (by refine ⟨by omega, by omega, ?_⟩; rw [en0, ef0, ei0, show (x - x).toNat = 0 by omega]; rfl)

set_option maxHeartbeats 4000000 in
set_option maxRecDepth 100000 in
theorem m_X6_freeAt {a : Nat → Nat} {n : Nat} {σ : ST} {v i : Int} (hM : MS σ) (hI : RowIn σ) (hv : 0 ≤ v ∧ v < 6) (hi : 0 ≤ i ∧ i ≤ σ 18 18) : MP yX6_freeAt cX6_freeAt 5 .int (RM 1 22) a n σ [.ref (a 18), iv v, iv i] (fun r => r = frM σ v i) := by
  refine MI.of (own := RX6) (by decide +kernel) rfl (Nat.le_of_ble_eq_true rfl) ?_
  intro κ C hret
  show J κ 0 0 a n σ [(0, .ref (a 18)), (1, iv v), (2, iv i)] 0 []
  obtain ⟨hb, hvn, hwt, hky, hdu, hwd, hli, hne, hse, hmk, hkd, hsh, hos, hpl, hld, hF, hlp, hpo⟩ := id hM
  have hrm := hI.2.1
  have hS : ∀ j, 0 ≤ Sm σ j ∧ Sm σ j ≤ 60 := fun j => hse _
  have hdi := dnF_bd (Pm σ v) (Sm σ) hS i.toNat
  refine r_iconst C dX6_freeAt_0 ?_
  refine r_istore_n C dX6_freeAt_1 (by decide) (fun z_ => [(3, iv z_), (0, .ref (a 18)), (1, iv v), (2, iv i)]) (fun _ => rfl) (fun s0 es0 => ?_)
  refine r_iload_n C dX6_freeAt_2 3 rfl ?_
  refine r_iconst C dX6_freeAt_3 ?_
  refine r_isub C dX6_freeAt_4 ?_
  refine r_istore C dX6_freeAt_5 (by decide) (fun z_ => [(4, iv z_), (3, iv s0), (0, .ref (a 18)), (1, iv v), (2, iv i)]) (fun _ => rfl) (fun k0 ek0 => ?_)
  have lp7 : ∀ (N : Nat) (su : Int) (k : Int), (k + 1 : Int) < N → (-1 ≤ k ∧ k < i ∧ 0 ≤ su ∧ su + dnF (Pm σ v) (Sm σ) (k + 1).toNat = dnF (Pm σ v) (Sm σ) i.toNat) → J κ 0 0 a n σ [(0, .ref (a 18)), (1, iv v), (2, iv i), (3, iv su), (4, iv k)] 7 [] := by
    intro N
    induction N with
    | zero =>
      intro su k hm7 hi7
      exact absurd hm7 (by omega)
    | succ N ih7 =>
      intro su k hm7 hi7
      obtain ⟨hk1, hk2, hk3, hsm⟩ := hi7
      have hdk := dnF_bd (Pm σ v) (Sm σ) hS (k + 1).toNat
      refine r_iload C dX6_freeAt_7 4 rfl ?_
      refine r_if_lt (tgt := 43) C dX6_freeAt_9 (by decide) (by omega) (fun hk0 => ?_) (fun hk0 => ?_)
      · skip
        refine r_iload_n C dX6_freeAt_43 2 rfl ?_
        refine r_istore C dX6_freeAt_44 (by decide) (fun z_ => [(4, iv z_), (0, .ref (a 18)), (1, iv v), (2, iv i), (3, iv su)]) (fun _ => rfl) (fun j0 ej0 => ?_)
        have lp46 : ∀ (N : Nat) (su2 : Int) (j : Int), (σ 18 18 - j : Int) < N → (i ≤ j ∧ j ≤ σ 18 18 ∧ 0 ≤ su2 ∧ su2 + upT (Pm σ v) (Sm σ) (σ 18 18) j = frM σ v i) → J κ 0 0 a n σ [(0, .ref (a 18)), (1, iv v), (2, iv i), (3, iv su2), (4, iv j)] 46 [] := by
          intro N
          induction N with
          | zero =>
            intro su2 j hm46 hi46
            exact absurd hm46 (by omega)
          | succ N ih46 =>
            intro su2 j hm46 hi46
            obtain ⟨hj1, hj2, hj3, hst⟩ := hi46
            have huj := upF_bd (Pm σ v) (Sm σ) hS (σ 18 18 - j).toNat j
            have hfb := freF_bd (P := Pm σ v) hS hi.1 hi.2 hrm
            have huj2 : 0 ≤ upT (Pm σ v) (Sm σ) (σ 18 18) j := huj.1
            change su2 + upT (Pm σ v) (Sm σ) (σ 18 18) j = freF (Pm σ v) (Sm σ) (σ 18 18) i at hst
            refine r_iload C dX6_freeAt_46 4 rfl ?_
            refine r_aload_n C dX6_freeAt_48 0 rfl ?_
            refine gX6_106 C dX6_freeAt_49 (fun g2 => ?_)
            refine r_icmp_ge (tgt := 86) C dX6_freeAt_52 (by decide) (by omega) (by omega) (fun hjm => ?_) (fun hjm => ?_)
            · skip
              refine r_iload_n C dX6_freeAt_86 3 rfl ?_
              exact hret _ _ _ _ dX6_freeAt_87 ⟨rfl, by show _ = freF _ _ _ _; first | (rw [upT_e (by omega)] at hst; omega) | (rw [upT_s (show j < σ 18 18 by omega), if_neg hrj] at hst; omega)⟩
            · skip
              refine r_aload_n C dX6_freeAt_55 0 rfl ?_
              refine r_iload_n C dX6_freeAt_56 1 rfl ?_
              refine r_iload C dX6_freeAt_57 4 rfl ?_
              refine r_callB2 18 C dX6_freeAt_59 lkX6_109 (m_X6_rests hI (by omega) (by omega)) ⟨rfl, rfl, Nat.le_of_ble_eq_true rfl, Nat.le_of_ble_eq_true rfl⟩ ⟨Nat.zero_le _, Nat.zero_le _⟩ rc18 (Nat.le_of_ble_eq_true rfl) (fun hrj => ?_) (fun hrj => ?_)
              · skip
                refine r_if_eq (tgt := 86) C dX6_freeAt_62 (by decide) (by decide) (fun q => absurd q (by decide)) (fun _ => ?_)
                have hrij := hI.2.2 j (by omega) (by omega)
                have hsj := hS j
                unfold Sm at hsj
                refine r_iload_n C dX6_freeAt_65 3 rfl ?_
                refine r_aload_n C dX6_freeAt_66 0 rfl ?_
                refine gX6_22 C dX6_freeAt_67 ?_
                refine r_aload_n C dX6_freeAt_70 0 rfl ?_
                refine gX6_50 C dX6_freeAt_71 ?_
                refine r_iload C dX6_freeAt_74 4 rfl ?_
                refine r_iald 40 C dX6_freeAt_76 (by omega) (fun _ => rfl) (by omega) (by omega) (by decide) (fun g7 => ?_)
                refine r_iald 40 C dX6_freeAt_77 (by omega) (fun _ => rfl) (by omega) (by omega) (by decide) (fun g8 => ?_)
                refine r_iadd C dX6_freeAt_78 ?_
                refine r_istore_n C dX6_freeAt_79 (by decide) (fun z_ => [(3, iv z_), (0, .ref (a 18)), (1, iv v), (2, iv i), (4, iv j)]) (fun _ => rfl) (fun t2 et2 => ?_)
                refine r_iinc C dX6_freeAt_80 (by decide) 4 rfl (fun z_ => [(4, iv z_), (3, iv t2), (0, .ref (a 18)), (1, iv v), (2, iv i)]) (fun _ => rfl) (fun j2 ej2 => ?_)
                refine r_goto (tgt := 46) C dX6_freeAt_83 (by decide) ?_
                refine r_sub [2, 3, 4, 1, 0] (L' := [(0, .ref (a 18)), (1, iv v), (2, iv i), (3, iv t2), (4, iv j2)]) rfl ?_
                exact ih46 _ _ (by omega) (by subst et2; subst ej2; rw [upT_s (show j < σ 18 18 by omega), if_pos hrj] at hst; refine ⟨by omega, by omega, by omega, ?_⟩; show _ = freF _ _ _ _; rw [← hst]; unfold Sm; omega)
              · skip
                refine r_if_eq (tgt := 86) C dX6_freeAt_62 (by decide) (by decide) (fun _ => ?_) (fun q => absurd q (by decide))
                refine r_iload_n C dX6_freeAt_86 3 rfl ?_
                exact hret _ _ _ _ dX6_freeAt_87 ⟨rfl, by show _ = freF _ _ _ _; first | (rw [upT_e (by omega)] at hst; omega) | (rw [upT_s (show j < σ 18 18 by omega), if_neg hrj] at hst; omega)⟩
        refine r_sub [1, 2, 3, 4, 0] (L' := [(0, .ref (a 18)), (1, iv v), (2, iv i), (3, iv su), (4, iv j0)]) rfl ?_
        exact lp46 ((σ 18 18 - i : Int).toNat + 1) _ _ (by omega) (by subst ej0; refine ⟨by omega, by omega, by omega, ?_⟩; unfold frM freF; first | (rw [show (k + 1).toNat = 0 by omega] at hsm; simp only [dnF] at hsm; omega) | (rw [dnF_s _ _ (show (0 : Int) ≤ k by omega), if_neg hrk] at hsm; omega))
      · skip
        refine r_aload_n C dX6_freeAt_12 0 rfl ?_
        refine r_iload_n C dX6_freeAt_13 1 rfl ?_
        refine r_iload C dX6_freeAt_14 4 rfl ?_
        refine r_callB2 18 C dX6_freeAt_16 lkX6_109 (m_X6_rests hI (by omega) (by omega)) ⟨rfl, rfl, Nat.le_of_ble_eq_true rfl, Nat.le_of_ble_eq_true rfl⟩ ⟨Nat.zero_le _, Nat.zero_le _⟩ rc18 (Nat.le_of_ble_eq_true rfl) (fun hrk => ?_) (fun hrk => ?_)
        · skip
          refine r_if_eq (tgt := 43) C dX6_freeAt_19 (by decide) (by decide) (fun q => absurd q (by decide)) (fun _ => ?_)
          have hri := hI.2.2 k (by omega) (by omega)
          have hsk := hS k
          unfold Sm at hsk
          refine r_iload_n C dX6_freeAt_22 3 rfl ?_
          refine r_aload_n C dX6_freeAt_23 0 rfl ?_
          refine gX6_22 C dX6_freeAt_24 ?_
          refine r_aload_n C dX6_freeAt_27 0 rfl ?_
          refine gX6_50 C dX6_freeAt_28 ?_
          refine r_iload C dX6_freeAt_31 4 rfl ?_
          refine r_iald 40 C dX6_freeAt_33 (by omega) (fun _ => rfl) (by omega) (by omega) (by decide) (fun g13 => ?_)
          refine r_iald 40 C dX6_freeAt_34 (by omega) (fun _ => rfl) (by omega) (by omega) (by decide) (fun g14 => ?_)
          refine r_iadd C dX6_freeAt_35 ?_
          refine r_istore_n C dX6_freeAt_36 (by decide) (fun z_ => [(3, iv z_), (0, .ref (a 18)), (1, iv v), (2, iv i), (4, iv k)]) (fun _ => rfl) (fun s2 es2 => ?_)
          refine r_iinc C dX6_freeAt_37 (by decide) 4 rfl (fun z_ => [(4, iv z_), (3, iv s2), (0, .ref (a 18)), (1, iv v), (2, iv i)]) (fun _ => rfl) (fun k2 ek2 => ?_)
          refine r_goto (tgt := 7) C dX6_freeAt_40 (by decide) ?_
          refine r_sub [2, 3, 4, 1, 0] (L' := [(0, .ref (a 18)), (1, iv v), (2, iv i), (3, iv s2), (4, iv k2)]) rfl ?_
          exact ih7 _ _ (by omega) (by subst es2; subst ek2; rw [dnF_s _ _ (show (0 : Int) ≤ k by omega), if_pos hrk] at hsm; refine ⟨by omega, by omega, by omega, ?_⟩; rw [show k + -1 + 1 = k by omega]; show _ = dnF _ _ _; rw [← hsm]; unfold Sm; omega)
        · skip
          refine r_if_eq (tgt := 43) C dX6_freeAt_19 (by decide) (by decide) (fun _ => ?_) (fun q => absurd q (by decide))
          refine r_iload_n C dX6_freeAt_43 2 rfl ?_
          refine r_istore C dX6_freeAt_44 (by decide) (fun z_ => [(4, iv z_), (0, .ref (a 18)), (1, iv v), (2, iv i), (3, iv su)]) (fun _ => rfl) (fun j0 ej0 => ?_)
          have lp46 : ∀ (N : Nat) (su2 : Int) (j : Int), (σ 18 18 - j : Int) < N → (i ≤ j ∧ j ≤ σ 18 18 ∧ 0 ≤ su2 ∧ su2 + upT (Pm σ v) (Sm σ) (σ 18 18) j = frM σ v i) → J κ 0 0 a n σ [(0, .ref (a 18)), (1, iv v), (2, iv i), (3, iv su2), (4, iv j)] 46 [] := by
            intro N
            induction N with
            | zero =>
              intro su2 j hm46 hi46
              exact absurd hm46 (by omega)
            | succ N ih46 =>
              intro su2 j hm46 hi46
              obtain ⟨hj1, hj2, hj3, hst⟩ := hi46
              have huj := upF_bd (Pm σ v) (Sm σ) hS (σ 18 18 - j).toNat j
              have hfb := freF_bd (P := Pm σ v) hS hi.1 hi.2 hrm
              have huj2 : 0 ≤ upT (Pm σ v) (Sm σ) (σ 18 18) j := huj.1
              change su2 + upT (Pm σ v) (Sm σ) (σ 18 18) j = freF (Pm σ v) (Sm σ) (σ 18 18) i at hst
              refine r_iload C dX6_freeAt_46 4 rfl ?_
              refine r_aload_n C dX6_freeAt_48 0 rfl ?_
              refine gX6_106 C dX6_freeAt_49 (fun g16 => ?_)
              refine r_icmp_ge (tgt := 86) C dX6_freeAt_52 (by decide) (by omega) (by omega) (fun hjm => ?_) (fun hjm => ?_)
              · skip
                refine r_iload_n C dX6_freeAt_86 3 rfl ?_
                exact hret _ _ _ _ dX6_freeAt_87 ⟨rfl, by show _ = freF _ _ _ _; first | (rw [upT_e (by omega)] at hst; omega) | (rw [upT_s (show j < σ 18 18 by omega), if_neg hrj] at hst; omega)⟩
              · skip
                refine r_aload_n C dX6_freeAt_55 0 rfl ?_
                refine r_iload_n C dX6_freeAt_56 1 rfl ?_
                refine r_iload C dX6_freeAt_57 4 rfl ?_
                refine r_callB2 18 C dX6_freeAt_59 lkX6_109 (m_X6_rests hI (by omega) (by omega)) ⟨rfl, rfl, Nat.le_of_ble_eq_true rfl, Nat.le_of_ble_eq_true rfl⟩ ⟨Nat.zero_le _, Nat.zero_le _⟩ rc18 (Nat.le_of_ble_eq_true rfl) (fun hrj => ?_) (fun hrj => ?_)
                · skip
                  refine r_if_eq (tgt := 86) C dX6_freeAt_62 (by decide) (by decide) (fun q => absurd q (by decide)) (fun _ => ?_)
                  have hrij := hI.2.2 j (by omega) (by omega)
                  have hsj := hS j
                  unfold Sm at hsj
                  refine r_iload_n C dX6_freeAt_65 3 rfl ?_
                  refine r_aload_n C dX6_freeAt_66 0 rfl ?_
                  refine gX6_22 C dX6_freeAt_67 ?_
                  refine r_aload_n C dX6_freeAt_70 0 rfl ?_
                  refine gX6_50 C dX6_freeAt_71 ?_
                  refine r_iload C dX6_freeAt_74 4 rfl ?_
                  refine r_iald 40 C dX6_freeAt_76 (by omega) (fun _ => rfl) (by omega) (by omega) (by decide) (fun g21 => ?_)
                  refine r_iald 40 C dX6_freeAt_77 (by omega) (fun _ => rfl) (by omega) (by omega) (by decide) (fun g22 => ?_)
                  refine r_iadd C dX6_freeAt_78 ?_
                  refine r_istore_n C dX6_freeAt_79 (by decide) (fun z_ => [(3, iv z_), (0, .ref (a 18)), (1, iv v), (2, iv i), (4, iv j)]) (fun _ => rfl) (fun t2 et2 => ?_)
                  refine r_iinc C dX6_freeAt_80 (by decide) 4 rfl (fun z_ => [(4, iv z_), (3, iv t2), (0, .ref (a 18)), (1, iv v), (2, iv i)]) (fun _ => rfl) (fun j2 ej2 => ?_)
                  refine r_goto (tgt := 46) C dX6_freeAt_83 (by decide) ?_
                  refine r_sub [2, 3, 4, 1, 0] (L' := [(0, .ref (a 18)), (1, iv v), (2, iv i), (3, iv t2), (4, iv j2)]) rfl ?_
                  exact ih46 _ _ (by omega) (by subst et2; subst ej2; rw [upT_s (show j < σ 18 18 by omega), if_pos hrj] at hst; refine ⟨by omega, by omega, by omega, ?_⟩; show _ = freF _ _ _ _; rw [← hst]; unfold Sm; omega)
                · skip
                  refine r_if_eq (tgt := 86) C dX6_freeAt_62 (by decide) (by decide) (fun _ => ?_) (fun q => absurd q (by decide))
                  refine r_iload_n C dX6_freeAt_86 3 rfl ?_
                  exact hret _ _ _ _ dX6_freeAt_87 ⟨rfl, by show _ = freF _ _ _ _; first | (rw [upT_e (by omega)] at hst; omega) | (rw [upT_s (show j < σ 18 18 by omega), if_neg hrj] at hst; omega)⟩
          refine r_sub [1, 2, 3, 4, 0] (L' := [(0, .ref (a 18)), (1, iv v), (2, iv i), (3, iv su), (4, iv j0)]) rfl ?_
          exact lp46 ((σ 18 18 - i : Int).toNat + 1) _ _ (by omega) (by subst ej0; refine ⟨by omega, by omega, by omega, ?_⟩; unfold frM freF; first | (rw [show (k + 1).toNat = 0 by omega] at hsm; simp only [dnF] at hsm; omega) | (rw [dnF_s _ _ (show (0 : Int) ≤ k by omega), if_neg hrk] at hsm; omega))
  refine r_sub [2, 3, 4, 1, 0] (L' := [(0, .ref (a 18)), (1, iv v), (2, iv i), (3, iv s0), (4, iv k0)]) rfl ?_
  exact lp7 ((i : Int).toNat + 1) _ _ (by omega) (by subst es0; subst ek0; refine ⟨by omega, by omega, by omega, ?_⟩; rw [show i - 1 + 1 = i by omega]; omega)

set_option maxHeartbeats 4000000 in
set_option maxRecDepth 100000 in
theorem m_X6_isBad {a : Nat → Nat} {n : Nat} {σ : ST} {v i : Int} (hM : MS σ) (hI : RowIn σ) (hv : 0 ≤ v ∧ v < 6) (hi : 0 ≤ i ∧ i ≤ σ 18 18) : MB yX6_isBad cX6_isBad 3 (RM 2 46) a n σ [.ref (a 18), iv v, iv i] (frM σ v i < ndM σ v) := by
  refine MI.ofB (own := RX6) (by decide +kernel) rfl (Nat.le_of_ble_eq_true rfl) ?_
  intro κ C hret
  show J κ 0 0 a n σ [(0, .ref (a 18)), (1, iv v), (2, iv i)] 0 []
  obtain ⟨hb, hvn, hwt, hky, hdu, hwd, hli, hne, hse, hmk, hkd, hsh, hos, hpl, hld, hF, hlp, hpo⟩ := id hM
  have hrm := hI.2.1
  have hfb : 0 ≤ frM σ v i ∧ frM σ v i ≤ 2400 := freF_bd (P := Pm σ v) (fun j => hse _) hi.1 hi.2 hrm
  have hkv := hkd v
  refine r_aload_n C dX6_isBad_0 0 rfl ?_
  refine r_iload_n C dX6_isBad_1 1 rfl ?_
  refine r_iload_n C dX6_isBad_2 2 rfl ?_
  refine r_callP2 18 C dX6_isBad_3 lkX6_133 (m_X6_freeAt (by assumption) hI (by omega) (by omega)) ⟨rfl, rfl, Nat.le_of_ble_eq_true rfl, Nat.le_of_ble_eq_true rfl⟩ ⟨Nat.zero_le _, Nat.zero_le _⟩ rc18 (Nat.le_of_ble_eq_true rfl) (fun fr hfr => ?_)
  refine r_aload_n C dX6_isBad_6 0 rfl ?_
  refine gX6_29 C dX6_isBad_7 ?_
  refine r_iload_n C dX6_isBad_10 1 rfl ?_
  refine r_iald 6 C dX6_isBad_11 (by omega) (fun _ => rfl) (by omega) (by omega) (by decide) (fun g2 => ?_)
  refine r_iconst C dX6_isBad_12 ?_
  refine r_icmp_ne (tgt := 25) C dX6_isBad_13 (by decide) (by omega) (by omega) (fun hk1 => ?_) (fun hk1 => ?_)
  · skip
    refine r_aload_n C dX6_isBad_25 0 rfl ?_
    refine gX6_19 C dX6_isBad_26 (fun g4 => ?_)
    refine r_icmp_ge (tgt := 36) C dX6_isBad_29 (by decide) (by omega) (by omega) (fun h5 => ?_) (fun h5 => ?_)
    · skip
      refine r_iconst C dX6_isBad_36 ?_
      exact hret _ _ _ _ dX6_isBad_37 (Or.inl rfl) (⟨rfl, Or.inr ⟨rfl, by unfold ndM; first | (rw [if_pos hk1]; omega) | (rw [if_neg hk1]; omega)⟩⟩)
    · skip
      refine r_iconst C dX6_isBad_32 ?_
      refine r_goto (tgt := 37) C dX6_isBad_33 (by decide) ?_
      exact hret _ _ _ _ dX6_isBad_37 (Or.inr rfl) (⟨rfl, Or.inl ⟨rfl, by unfold ndM; first | (rw [if_pos hk1]; omega) | (rw [if_neg hk1]; omega)⟩⟩)
  · skip
    refine r_aload_n C dX6_isBad_16 0 rfl ?_
    refine gX6_19 C dX6_isBad_17 (fun g6 => ?_)
    refine r_iconst C dX6_isBad_20 ?_
    refine r_idiv C dX6_isBad_21 (by omega) (by omega) (by omega) (by omega) ?_
    rw [Int.tdiv_eq_ediv_of_nonneg (by omega)]
    refine r_goto (tgt := 29) C dX6_isBad_22 (by decide) ?_
    refine r_icmp_ge (tgt := 36) C dX6_isBad_29 (by decide) (by omega) (by omega) (fun h7 => ?_) (fun h7 => ?_)
    · skip
      refine r_iconst C dX6_isBad_36 ?_
      exact hret _ _ _ _ dX6_isBad_37 (Or.inl rfl) (⟨rfl, Or.inr ⟨rfl, by unfold ndM; first | (rw [if_pos hk1]; omega) | (rw [if_neg hk1]; omega)⟩⟩)
    · skip
      refine r_iconst C dX6_isBad_32 ?_
      refine r_goto (tgt := 37) C dX6_isBad_33 (by decide) ?_
      exact hret _ _ _ _ dX6_isBad_37 (Or.inr rfl) (⟨rfl, Or.inl ⟨rfl, by unfold ndM; first | (rw [if_pos hk1]; omega) | (rw [if_neg hk1]; omega)⟩⟩)
end
section
theorem bestF_congr {cb cg cb2 cg2 : Int → Int} (h : ∀ m, 1 ≤ m → cb m = cb2 m ∧ cg m = cg2 m) : ∀ k : Nat, bestF cb cg k = bestF cb2 cg2 k
  | 0 => rfl
  | k + 1 => by
    have h1 := bestF_congr h k
    have h2 := h (k + 1) (by omega)
    unfold bestF
    rw [h1, h2.1, h2.2]
def DPI (sy : Int → Int → Int) (lines : Int) (bt : Int → Int) (many : Int) (B G Z : Int → Int) (i : Int) : Prop :=
  -1 ≤ i ∧ i < many ∧ B many = 0 ∧ G many = 0 ∧ (∀ j, i < j → j < many → (Z j, B j, G j) = bestF (fun m => B (j + m) + bt (j + m)) (fun m => G (j + m) + 1) (farT (sy j) lines (many - j) 0).toNat) ∧ ∀ j, i < j → j ≤ many → 0 ≤ B j ∧ B j ≤ many - j ∧ 0 ≤ G j ∧ G j ≤ many - j
def DPJ (sy : Int → Int → Int) (lines : Int) (bt : Int → Int) (many : Int) (B G Z B2 G2 Z2 : Int → Int) (i m : Int) : Prop :=
  1 ≤ m ∧ i + m ≤ many + 1 ∧ farT (sy i) lines (many - i) 0 = farT (sy i) lines (many - i) (m - 1) ∧ Z2 i = (bestF (fun m => B (i + m) + bt (i + m)) (fun m => G (i + m) + 1) (m - 1).toNat).1 ∧ (1 < m → B2 i = (bestF (fun m => B (i + m) + bt (i + m)) (fun m => G (i + m) + 1) (m - 1).toNat).2.1 ∧ G2 i = (bestF (fun m => B (i + m) + bt (i + m)) (fun m => G (i + m) + 1) (m - 1).toNat).2.2) ∧ ∀ j, j ≠ i → B2 j = B j ∧ G2 j = G j ∧ Z2 j = Z j
section DPS
variable {sy : Int → Int → Int} {lines : Int} {bt : Int → Int} {many : Int} {B G Z B2 G2 Z2 B3 G3 Z3 : Int → Int} {i m ib ip : Int}
theorem DPJ.start (h0 : i < many) (hz : Z2 i = 0) (ho : ∀ j, j ≠ i → Z2 j = Z j) : DPJ sy lines bt many B G Z B G Z2 i 1 :=
  ⟨by omega, by omega, rfl, hz, fun h => absurd h (by omega), fun j hj => ⟨rfl, rfl, ho j hj⟩⟩
theorem DPJ.keep (hJ : DPJ sy lines bt many B G Z B2 G2 Z2 i m) (h1 : i + m ≤ many) (h2 : sy i m ≤ lines) (e1 : ib = B (i + m) + bt (i + m)) (e2 : ip = G (i + m) + 1) (hz : 0 < Z2 i) (hc : B2 i < ib ∨ ib = B2 i ∧ G2 i ≤ ip) : DPJ sy lines bt many B G Z B2 G2 Z2 i (m + 1) := by
  obtain ⟨a1, a2, a3, a4, a5, a6⟩ := hJ
  have hm : 1 < m := by
    rcases (show m = 1 ∨ 1 < m by omega) with h | h
    · subst h; rw [a4] at hz; simp [bestF] at hz
    · exact h
  obtain ⟨b1, b2⟩ := a5 hm
  have key : bestF (fun m => B (i + m) + bt (i + m)) (fun m => G (i + m) + 1) (m + 1 - 1).toNat = bestF (fun m => B (i + m) + bt (i + m)) (fun m => G (i + m) + 1) (m - 1).toNat := by
    rw [show m + 1 - 1 = m by omega, bestF_s _ _ a1, if_pos]
    exact ⟨by omega, by rw [← b1, ← b2]; omega⟩
  refine ⟨by omega, by omega, ?_, by rw [key]; exact a4, fun _ => by rw [key]; exact ⟨b1, b2⟩, a6⟩
  rw [a3, farT_t (by omega) (by rw [show m - 1 + 1 = m by omega]; exact h2), show m - 1 + 1 = m + 1 - 1 by omega]
theorem DPJ.take (hJ : DPJ sy lines bt many B G Z B2 G2 Z2 i m) (h1 : i + m ≤ many) (h2 : sy i m ≤ lines) (e1 : ib = B (i + m) + bt (i + m)) (e2 : ip = G (i + m) + 1) (hc : ¬ (0 < Z2 i ∧ (B2 i < ib ∨ ib = B2 i ∧ G2 i ≤ ip))) (c1 : B3 i = ib) (c2 : G3 i = ip) (c3 : Z3 i = m) (c4 : ∀ j, j ≠ i → B3 j = B2 j ∧ G3 j = G2 j ∧ Z3 j = Z2 j) : DPJ sy lines bt many B G Z B3 G3 Z3 i (m + 1) := by
  obtain ⟨a1, a2, a3, a4, a5, a6⟩ := hJ
  have key : bestF (fun m => B (i + m) + bt (i + m)) (fun m => G (i + m) + 1) (m + 1 - 1).toNat = (m, B (i + m) + bt (i + m), G (i + m) + 1) := by
    rw [show m + 1 - 1 = m by omega, bestF_s _ _ a1, if_neg]
    intro q
    rcases (show m = 1 ∨ 1 < m by omega) with h | h
    · have q1 := q.1
      rw [← a4] at q1
      subst h
      rw [show (1 - 1 : Int).toNat = 0 by decide] at a4
      simp only [bestF] at a4
      omega
    · obtain ⟨b1, b2⟩ := a5 h
      have q1 := q.1
      have q2 := q.2
      rw [← a4] at q1
      rw [← b1, ← b2] at q2
      exact hc ⟨q1, by omega⟩
  refine ⟨by omega, by omega, ?_, by rw [key, c3], fun _ => by rw [key]; exact ⟨by rw [c1, e1], by rw [c2, e2]⟩, fun j hj => ?_⟩
  · rw [a3, farT_t (by omega) (by rw [show m - 1 + 1 = m by omega]; exact h2), show m - 1 + 1 = m + 1 - 1 by omega]
  · obtain ⟨d1, d2, d3⟩ := c4 j hj
    obtain ⟨f1, f2, f3⟩ := a6 j hj
    exact ⟨d1.trans f1, d2.trans f2, d3.trans f3⟩
theorem DPJ.takeS {τ : ST} (hJ : DPJ sy lines bt many B G Z (τ 29) (τ 30) (τ 31) i m) (h1 : i + m ≤ many) (h2 : sy i m ≤ lines) (e1 : ib = B (i + m) + bt (i + m)) (e2 : ip = G (i + m) + 1) (hc : ¬ (0 < τ 31 i ∧ (τ 29 i < ib ∨ ib = τ 29 i ∧ τ 30 i ≤ ip))) : DPJ sy lines bt many B G Z ((up2 (up2 (up2 τ 31 i m) 29 i ib) 30 i ip) 29) ((up2 (up2 (up2 τ 31 i m) 29 i ib) 30 i ip) 30) ((up2 (up2 (up2 τ 31 i m) 29 i ib) 30 i ip) 31) i (m + 1) := by
  have d1 : (29 : Nat) ≠ 30 := by decide
  have d2 : (31 : Nat) ≠ 30 := by decide
  have d3 : (31 : Nat) ≠ 29 := by decide
  have d4 : (29 : Nat) ≠ 31 := by decide
  have d5 : (30 : Nat) ≠ 29 := by decide
  have d6 : (30 : Nat) ≠ 31 := by decide
  refine hJ.take h1 h2 e1 e2 hc ?_ ?_ ?_ (fun j hj9 => ⟨?_, ?_, ?_⟩)
  · rw [up2_ne d1, up2_self]
  · rw [up2_self]
  · rw [up2_ne d2, up2_ne d3, up2_self]
  · rw [up2_ne d1, up2_at hj9, up2_ne d4]
  · rw [up2_at hj9, up2_ne d5, up2_ne d6]
  · rw [up2_ne d2, up2_ne d3, up2_at hj9]
theorem DPJ.done (hI : DPI sy lines bt many B G Z i) (hJ : DPJ sy lines bt many B G Z B2 G2 Z2 i m) (h0 : 0 ≤ i) (hx : ¬ (i + m ≤ many ∧ sy i m ≤ lines)) (h1 : sy i 1 ≤ lines) (hbt : ∀ j, 0 ≤ bt j ∧ bt j ≤ 1) : DPI sy lines bt many B2 G2 Z2 (i - 1) := by
  obtain ⟨a1, a2, a3, a4, a5, a6⟩ := hJ
  obtain ⟨i1, i2, i3, i4, i5, i6⟩ := hI
  have hm : 1 < m := by
    rcases (show m = 1 ∨ 1 < m by omega) with h | h
    · subst h; exact absurd ⟨by omega, h1⟩ hx
    · exact h
  obtain ⟨b1, b2⟩ := a5 hm
  have hfar : farT (sy i) lines (many - i) 0 = m - 1 := by
    rw [a3, farT_f]
    intro q
    rw [show m - 1 + 1 = m by omega] at q
    exact hx ⟨by omega, q.2⟩
  have hin := bestF_in (fun m => B (i + m) + bt (i + m)) (fun m => G (i + m) + 1) (m - 1).toNat (by omega)
  have hcong : ∀ j, i ≤ j → ∀ k : Nat, bestF (fun m => B (j + m) + bt (j + m)) (fun m => G (j + m) + 1) k = bestF (fun m => B2 (j + m) + bt (j + m)) (fun m => G2 (j + m) + 1) k := by
    intro j hj k
    refine bestF_congr (fun q hq => ?_) k
    obtain ⟨f1, f2, -⟩ := a6 (j + q) (by omega)
    exact ⟨by show B (j + q) + _ = B2 (j + q) + _; rw [f1], by show G (j + q) + 1 = G2 (j + q) + 1; rw [f2]⟩
  refine ⟨by omega, by omega, ?_, ?_, fun j h2 h3 => ?_, fun j h2 h3 => ?_⟩
  · rw [(a6 many (by omega)).1]; exact i3
  · rw [(a6 many (by omega)).2.1]; exact i4
  · by_cases hj : j = i
    · subst hj
      rw [← hcong j (Int.le_refl _), hfar, a4, b1, b2]
    · obtain ⟨f1, f2, f3⟩ := a6 j hj
      rw [f1, f2, f3, ← hcong j (by omega)]
      exact i5 j (by omega) h3
  · by_cases hj : j = i
    · subst hj
      rw [b1, b2, hin.2.2.1, hin.2.2.2]
      have h4 := i6 (j + (bestF (fun m => B (j + m) + bt (j + m)) (fun m => G (j + m) + 1) (m - 1).toNat).1) (by omega) (by omega)
      have h5 := hbt (j + (bestF (fun m => B (j + m) + bt (j + m)) (fun m => G (j + m) + 1) (m - 1).toNat).1)
      omega
    · obtain ⟨f1, f2, -⟩ := a6 j hj
      rw [f1, f2]
      exact i6 j (by omega) h3
theorem DPI.ok (h : DPI sy lines bt many B G Z (-1)) : DPOK sy lines bt many B G Z := ⟨h.2.2.1, h.2.2.2.1, fun i h1 h2 => h.2.2.2.2.1 i (by omega) h2⟩
theorem DPOK.step (h : DPOK sy lines bt many B G Z) (h1 : ∀ i, sy i 1 ≤ lines) {i : Int} (h0 : 0 ≤ i) (hi : i < many) : 1 ≤ Z i ∧ i + Z i ≤ many := by
  have h2 := h.2.2 i h0 hi
  have h3 : 1 ≤ farT (sy i) lines (many - i) 0 := by
    rw [farT_t (by omega) (h1 i)]
    have := farT_bd (sy := sy i) (lines := lines) (rest := many - i) (k := 0 + 1) (by omega)
    omega
  have h4 := farT_bd (sy := sy i) (lines := lines) (rest := many - i) (k := 0) (by omega)
  have h5 := bestF_in (fun m => B (i + m) + bt (i + m)) (fun m => G (i + m) + 1) (farT (sy i) lines (many - i) 0).toNat (by omega)
  rw [← h2] at h5
  simp only at h5
  omega
end DPS
def AgM (ρ τ : ST) : Prop := ∀ c, c ≠ 29 → c ≠ 30 → c ≠ 31 → τ c = ρ c
theorem AgM.up {ρ τ : ST} (h : AgM ρ τ) {c : Nat} (hc : c = 29 ∨ c = 30 ∨ c = 31) (k z : Int) : AgM ρ (up2 τ c k z) := fun d h1 h2 h3 => by rw [up2_ne (by omega)]; exact h d h1 h2 h3
theorem AgM.fr {ρ τ : ST} (h : AgM ρ τ) : FrM ρ τ := ⟨fun c _ _ h1 h2 h3 _ => h c h1 h2 h3, fun k _ => by rw [h 18 (by decide) (by decide) (by decide)]⟩
theorem AgM.ri {ρ τ : ST} (h : AgM ρ τ) (hI : RowIn ρ) : RowIn τ := by
  unfold RowIn
  rw [h 18 (by decide) (by decide) (by decide), h 28 (by decide) (by decide) (by decide)]
  exact hI
theorem agPm {ρ τ : ST} (h : AgM ρ τ) : Pm τ = Pm ρ := by
  funext v i
  show τ 24 (40 * v + τ 28 i) = ρ 24 (40 * v + ρ 28 i)
  rw [h 24 (by decide) (by decide) (by decide), h 28 (by decide) (by decide) (by decide)]
theorem agMm {ρ τ : ST} (h : AgM ρ τ) : Mm τ = Mm ρ := by
  funext i
  show τ 20 (τ 28 i) = ρ 20 (ρ 28 i)
  rw [h 20 (by decide) (by decide) (by decide), h 28 (by decide) (by decide) (by decide)]
theorem agSm {ρ τ : ST} (h : AgM ρ τ) : Sm τ = Sm ρ := by
  funext i
  show τ 19 (τ 28 i) = ρ 19 (ρ 28 i)
  rw [h 19 (by decide) (by decide) (by decide), h 28 (by decide) (by decide) (by decide)]
theorem agLm {ρ τ : ST} (h : AgM ρ τ) : Lm τ = Lm ρ := by
  funext o i
  show τ 25 (40 * o + τ 28 i) = ρ 25 (40 * o + ρ 28 i)
  rw [h 25 (by decide) (by decide) (by decide), h 28 (by decide) (by decide) (by decide)]
theorem ag18 {ρ τ : ST} (h : AgM ρ τ) : τ 18 = ρ 18 := h 18 (by decide) (by decide) (by decide)
theorem agcue {ρ τ : ST} (h : AgM ρ τ) : cueM τ = cueM ρ := by
  funext v i
  unfold cueM
  rw [agPm h, agLm h, h 23 (by decide) (by decide) (by decide), ag18 h]
theorem agwM {ρ τ : ST} (h : AgM ρ τ) : wM τ = wM ρ := by
  funext v i
  unfold wM
  rw [agPm h, agMm h, agcue h]
theorem agwfM {ρ τ : ST} (h : AgM ρ τ) : wfM τ = wfM ρ := by
  funext v i
  unfold wfM
  rw [agPm h, agMm h, agcue h]
theorem agsyM {ρ τ : ST} (h : AgM ρ τ) : syM τ = syM ρ := by
  funext v i m
  unfold syM
  rw [agwM h, agwfM h, ag18 h]
theorem agfrM {ρ τ : ST} (h : AgM ρ τ) : frM τ = frM ρ := by
  funext v i
  unfold frM
  rw [agPm h, agSm h, ag18 h]
theorem agndM {ρ τ : ST} (h : AgM ρ τ) : ndM τ = ndM ρ := by
  funext v
  unfold ndM
  rw [ag18 h, h 21 (by decide) (by decide) (by decide)]
theorem agbtM {ρ τ : ST} (h : AgM ρ τ) : btM τ = btM ρ := by
  funext v i
  unfold btM
  rw [agfrM h, agndM h, ag18 h]
theorem syM_1 {σ : ST} (hM : MS σ) (v i : Int) : syM σ v i 1 ≤ σ 18 6 := by
  have h1 := hM.2.2.2.2.2.1
  have h2 := hM.2.2.2.2.2.2.1
  have h3 := wfM_bd (v := v) hM i
  unfold syM
  rw [show (1 : Int).toNat = 0 + 1 by decide]
  unfold sysF
  simp only [sysF]
  rw [if_neg (by simp only [if_true]; rw [show i + ((0 : Nat) : Int) = i by omega]; omega)]
  simp only
  omega
theorem btM_bd (σ : ST) (v : Int) (j : Int) : 0 ≤ btM σ v j ∧ btM σ v j ≤ 1 := by
  unfold btM
  split <;> omega
set_option maxHeartbeats 4000000 in
set_option maxRecDepth 100000 in
theorem m_X6_findPages {a : Nat → Nat} {n : Nat} {σ : ST} {v : Int} (hM : MS σ) (hv : 0 ≤ v ∧ v < 6) : MV yX6_findPages cX6_findPages 6 (RM 4 99) a n σ [.ref (a 18), iv v] (fun σ1 => FrM σ σ1 ∧ RowOK (σ 20) (σ 18 0) (σ1 28) (σ1 18 18) ∧ DPOK (syM σ1 v) (σ1 18 6) (btM σ1 v) (σ1 18 18) (σ1 29) (σ1 30) (σ1 31)) := by
  refine MV.of (own := RX6) (by decide +kernel) rfl (Nat.le_of_ble_eq_true rfl) ?_
  intro κ C hret
  show J κ 0 0 a n σ [(0, .ref (a 18)), (1, iv v)] 0 []
  obtain ⟨hb, hvn, hwt, hky, hdu, hwd, hli, hne, hse, hmk, hkd, hsh, hos, hpl, hld, hF, hlp, hpo⟩ := id hM
  refine r_aload_n C dX6_findPages_0 0 rfl ?_
  refine r_callV0 18 C dX6_findPages_1 lkX6_116 (m_X6_findRow (by omega)) ⟨rfl, rfl, Nat.le_of_ble_eq_true rfl, Nat.le_of_ble_eq_true rfl⟩ ⟨Nat.zero_le _, Nat.zero_le _⟩ rc18 (Nat.le_of_ble_eq_true rfl) (fun ρ hr1 => ?_)
  obtain ⟨hfr, hro⟩ := hr1
  have hM2 := hfr.ms hM
  have hI := RowIn.of hro hb.1 hb.2
  have hrm := hI.2.1
  have hrm0 := hI.1
  have hli2 := hM2.2.2.2.2.2.2.1
  refine r_aload_n C dX6_findPages_4 0 rfl ?_
  refine gX6_53 C dX6_findPages_5 ?_
  refine r_aload_n C dX6_findPages_8 0 rfl ?_
  refine gX6_106 C dX6_findPages_9 (fun g3 => ?_)
  refine r_iconst C dX6_findPages_12 ?_
  refine r_iast 41 C dX6_findPages_13 (by omega) (fun _ _ => rfl) (by omega) (by omega) (by decide) (by omega) ?_
  refine r_aload_n C dX6_findPages_14 0 rfl ?_
  refine gX6_56 C dX6_findPages_15 ?_
  refine r_aload_n C dX6_findPages_18 0 rfl ?_
  refine gX6_106 C dX6_findPages_19 (fun g5 => ?_)
  rw [up2_ne (show (18 : Nat) ≠ 29 from by decide)] at g5 ⊢
  refine r_iconst C dX6_findPages_22 ?_
  refine r_iast 41 C dX6_findPages_23 (by omega) (fun _ _ => rfl) (by omega) (by omega) (by decide) (by omega) ?_
  refine r_aload_n C dX6_findPages_24 0 rfl ?_
  refine gX6_106 C dX6_findPages_25 (fun g6 => ?_)
  rw [up2_ne (show (18 : Nat) ≠ 30 from by decide)] at g6 ⊢
  rw [up2_ne (show (18 : Nat) ≠ 29 from by decide)] at g6 ⊢
  refine r_iconst C dX6_findPages_28 ?_
  refine r_isub C dX6_findPages_29 ?_
  refine r_istore_n C dX6_findPages_30 (by decide) (fun z_ => [(2, iv z_), (0, .ref (a 18)), (1, iv v)]) (fun _ => rfl) (fun i0 ei0 => ?_)
  have lp31 : ∀ (N : Nat) (i : Int) (τ : ST), (i + 1 : Int) < N → (AgM ρ τ ∧ DPI (syM ρ v) (ρ 18 6) (btM ρ v) (ρ 18 18) (τ 29) (τ 30) (τ 31) i) → J κ 0 0 a n τ [(0, .ref (a 18)), (1, iv v), (2, iv i)] 31 [] := by
    intro N
    induction N with
    | zero =>
      intro i τ hm31 hi31
      exact absurd hm31 (by have := hi31.2.1; omega)
    | succ N ih31 =>
      intro i τ hm31 hi31
      have hag := hi31.1
      have e18 := ag18 hag
      have em : τ 18 18 = ρ 18 18 := by rw [e18]
      have hi1 := hi31.2.1
      have hi2 := hi31.2.2.1
      refine r_iload_n C dX6_findPages_31 2 rfl ?_
      refine r_if_lt (tgt := 199) C dX6_findPages_32 (by decide) (by omega) (fun h7 => ?_) (fun h7 => ?_)
      · skip
        exact hret _ _ _ dX6_findPages_199 (by have hie : i = -1 := (by omega); subst hie; exact ⟨hfr.tr hag.fr, by rw [hag 28 (by decide) (by decide) (by decide), e18]; exact hro, by rw [agsyM hag, agbtM hag, e18]; exact DPI.ok hi31.2⟩)
      · skip
        refine r_aload_n C dX6_findPages_35 0 rfl ?_
        refine gX6_59 C dX6_findPages_36 ?_
        refine r_iload_n C dX6_findPages_39 2 rfl ?_
        refine r_iconst C dX6_findPages_40 ?_
        refine r_iast 41 C dX6_findPages_41 (by omega) (fun _ _ => rfl) (by omega) (by omega) (by decide) (by omega) ?_
        refine r_iconst C dX6_findPages_42 ?_
        refine r_istore_n C dX6_findPages_43 (by decide) (fun z_ => [(3, iv z_), (0, .ref (a 18)), (1, iv v), (2, iv i)]) (fun _ => rfl) (fun m0 em0 => ?_)
        have lp44 : ∀ (N : Nat) (m : Int) (τ2 : ST), (ρ 18 18 + 1 - i - m : Int) < N → (AgM ρ τ2 ∧ DPJ (syM ρ v) (ρ 18 6) (btM ρ v) (ρ 18 18) (τ 29) (τ 30) (τ 31) (τ2 29) (τ2 30) (τ2 31) i m) → J κ 0 0 a n τ2 [(0, .ref (a 18)), (1, iv v), (2, iv i), (3, iv m)] 44 [] := by
          intro N
          induction N with
          | zero =>
            intro m τ2 hm44 hi44
            exact absurd hm44 (by have := hi44.2.2.1; omega)
          | succ N ih44 =>
            intro m τ2 hm44 hi44
            have hag2 := hi44.1
            have hj := hi44.2
            have e18b := ag18 hag2
            have em2 : τ2 18 18 = ρ 18 18 := by rw [e18b]
            have el2 : τ2 18 6 = ρ 18 6 := by rw [e18b]
            have hm1 := hj.1
            have hm2 := hj.2.1
            have hMt := hag2.fr.ms hM2
            have hIt := hag2.ri hI
            refine r_iload_n C dX6_findPages_44 2 rfl ?_
            refine r_iload_n C dX6_findPages_45 3 rfl ?_
            refine r_iadd C dX6_findPages_46 ?_
            refine r_aload_n C dX6_findPages_47 0 rfl ?_
            refine gX6_106 C dX6_findPages_48 (fun g9 => ?_)
            refine r_icmp_gt (tgt := 193) C dX6_findPages_51 (by decide) (by omega) (by omega) (fun hgt => ?_) (fun hgt => ?_)
            · skip
              refine r_iinc C dX6_findPages_193 (by decide) 2 rfl (fun z_ => [(2, iv z_), (0, .ref (a 18)), (1, iv v), (3, iv m)]) (fun _ => rfl) (fun i2 ei2 => ?_)
              refine r_goto (tgt := 31) C dX6_findPages_196 (by decide) ?_
              refine r_sub [1, 2, 0] (L' := [(0, .ref (a 18)), (1, iv v), (2, iv i2)]) rfl ?_
              exact ih31 _ _ (by omega) (by rw [ei2, show i + -1 = i - 1 by omega]; exact ⟨hag2, DPJ.done hi31.2 hj (by omega) (by omega) (by have := syM_1 hM2 v i; exact this) (btM_bd ρ v)⟩)
            · skip
              refine r_aload_n C dX6_findPages_54 0 rfl ?_
              refine r_iload_n C dX6_findPages_55 1 rfl ?_
              refine r_iload_n C dX6_findPages_56 2 rfl ?_
              refine r_iload_n C dX6_findPages_57 2 rfl ?_
              refine r_iload_n C dX6_findPages_58 3 rfl ?_
              refine r_iadd C dX6_findPages_59 ?_
              refine r_callP3 18 C dX6_findPages_60 lkX6_136 (m_X6_systemsOf hMt hIt (by omega) (by omega)) ⟨rfl, rfl, Nat.le_of_ble_eq_true rfl, Nat.le_of_ble_eq_true rfl⟩ ⟨Nat.zero_le _, Nat.zero_le _⟩ rc18 (Nat.le_of_ble_eq_true rfl) (fun sy hsy => ?_)
              rw [agsyM hag2, show i + m - i = m by omega] at hsy
              have hsb := sysF_bd (wM ρ v) (wfM ρ v) (ρ 18 5) i (wM_bd hM2) (wfM_bd hM2) m.toNat
              have hsy2 : sy = (sysF (wM ρ v) (wfM ρ v) (ρ 18 5) i m.toNat).1 := hsy
              refine r_aload_n C dX6_findPages_63 0 rfl ?_
              refine gX6_16 C dX6_findPages_64 (fun g11 => ?_)
              refine r_icmp_gt (tgt := 193) C dX6_findPages_67 (by decide) (by omega) (by omega) (fun hln => ?_) (fun hln => ?_)
              · skip
                refine r_iinc C dX6_findPages_193 (by decide) 2 rfl (fun z_ => [(2, iv z_), (0, .ref (a 18)), (1, iv v), (3, iv m)]) (fun _ => rfl) (fun i2 ei2 => ?_)
                refine r_goto (tgt := 31) C dX6_findPages_196 (by decide) ?_
                refine r_sub [1, 2, 0] (L' := [(0, .ref (a 18)), (1, iv v), (2, iv i2)]) rfl ?_
                exact ih31 _ _ (by omega) (by rw [ei2, show i + -1 = i - 1 by omega]; exact ⟨hag2, DPJ.done hi31.2 hj (by omega) (by omega) (by have := syM_1 hM2 v i; exact this) (btM_bd ρ v)⟩)
              · skip
                have hbb := hi31.2.2.2.2.2.2 (i + m) (by omega) (by omega)
                have hne := hj.2.2.2.2.2 (i + m) (by omega)
                refine r_aload_n C dX6_findPages_70 0 rfl ?_
                refine gX6_53 C dX6_findPages_71 ?_
                refine r_iload_n C dX6_findPages_74 2 rfl ?_
                refine r_iload_n C dX6_findPages_75 3 rfl ?_
                refine r_iadd C dX6_findPages_76 ?_
                refine r_iald 41 C dX6_findPages_77 (by omega) (fun _ => rfl) (by omega) (by omega) (by decide) (fun g14 => ?_)
                refine r_iload_n C dX6_findPages_78 2 rfl ?_
                refine r_iload_n C dX6_findPages_79 3 rfl ?_
                refine r_iadd C dX6_findPages_80 ?_
                refine r_aload_n C dX6_findPages_81 0 rfl ?_
                refine gX6_106 C dX6_findPages_82 (fun g15 => ?_)
                refine r_icmp_ge (tgt := 103) C dX6_findPages_85 (by decide) (by omega) (by omega) (fun hmany => ?_) (fun hmany => ?_)
                · skip
                  refine r_iconst C dX6_findPages_103 ?_
                  refine r_iadd C dX6_findPages_104 ?_
                  refine r_istore C dX6_findPages_105 (by decide) (fun z_ => [(4, iv z_), (0, .ref (a 18)), (1, iv v), (2, iv i), (3, iv m)]) (fun _ => rfl) (fun ib eib => ?_)
                  refine r_aload_n C dX6_findPages_107 1 rfl ?_
                  refine gX6_56 C dX6_findPages_108 ?_
                  refine r_iload_n C dX6_findPages_111 3 rfl ?_
                  refine r_iload_n C dX6_findPages_112 4 rfl ?_
                  refine r_iadd C dX6_findPages_113 ?_
                  refine r_iald 41 C dX6_findPages_114 (by omega) (fun _ => rfl) (by omega) (by omega) (by decide) (fun g18 => ?_)
                  refine r_iconst C dX6_findPages_115 ?_
                  refine r_iadd C dX6_findPages_116 ?_
                  refine r_istore C dX6_findPages_117 (by decide) (fun z_ => [(5, iv z_), (4, iv ib), (0, .ref (a 18)), (1, iv v), (2, iv i), (3, iv m)]) (fun _ => rfl) (fun ip eip => ?_)
                  have hcb : ib = τ 29 (i + m) + btM ρ v (i + m) := by
                    unfold btM
                    try rw [agfrM hag2, agndM hag2] at hbd
                    first
                      | (rw [if_neg (by omega)]; omega)
                      | (rw [if_pos ⟨by omega, hbd⟩]; omega)
                      | (rw [if_neg (fun q => hbd q.2)]; omega)
                  have hcg : ip = τ 30 (i + m) + 1 := by omega
                  refine r_aload_n C dX6_findPages_119 2 rfl ?_
                  refine gX6_59 C dX6_findPages_120 ?_
                  refine r_iload_n C dX6_findPages_123 4 rfl ?_
                  refine r_iald 41 C dX6_findPages_124 (by omega) (fun _ => rfl) (by omega) (by omega) (by decide) (fun g20 => ?_)
                  refine r_if_le (tgt := 164) C dX6_findPages_125 (by decide) (by omega) (fun hz => ?_) (fun hz => ?_)
                  · skip
                    refine r_aload_n C dX6_findPages_164 2 rfl ?_
                    refine gX6_59 C dX6_findPages_165 ?_
                    refine r_iload_n C dX6_findPages_168 4 rfl ?_
                    refine r_iload_n C dX6_findPages_169 5 rfl ?_
                    refine r_iast 41 C dX6_findPages_170 (by omega) (fun _ _ => rfl) (by omega) (by omega) (by decide) (by omega) ?_
                    refine r_aload_n C dX6_findPages_171 2 rfl ?_
                    refine gX6_53 C dX6_findPages_172 ?_
                    refine r_iload_n C dX6_findPages_175 4 rfl ?_
                    refine r_iload C dX6_findPages_176 1 rfl ?_
                    refine r_iast 41 C dX6_findPages_178 (by omega) (fun _ _ => rfl) (by omega) (by omega) (by decide) (by omega) ?_
                    refine r_aload_n C dX6_findPages_179 2 rfl ?_
                    refine gX6_56 C dX6_findPages_180 ?_
                    refine r_iload_n C dX6_findPages_183 4 rfl ?_
                    refine r_iload C dX6_findPages_184 0 rfl ?_
                    refine r_iast 41 C dX6_findPages_186 (by omega) (fun _ _ => rfl) (by omega) (by omega) (by decide) (by omega) ?_
                    refine r_iinc C dX6_findPages_187 (by decide) 5 rfl (fun z_ => [(3, iv z_), (5, iv ip), (4, iv ib), (0, .ref (a 18)), (1, iv v), (2, iv i)]) (fun _ => rfl) (fun m3 em3 => ?_)
                    refine r_goto (tgt := 44) C dX6_findPages_190 (by decide) ?_
                    refine r_sub [3, 4, 5, 0] (L' := [(0, .ref (a 18)), (1, iv v), (2, iv i), (3, iv m3)]) rfl ?_
                    exact ih44 _ _ (by omega) (by subst em3; first | exact ⟨hag2, hj.keep (by omega) (by omega) hcb hcg (by omega) (by omega)⟩ | exact ⟨((hag2.up (Or.inr (Or.inr rfl)) _ _).up (Or.inl rfl) _ _).up (Or.inr (Or.inl rfl)) _ _, hj.takeS (by omega) (by omega) hcb hcg (by omega)⟩)
                  · skip
                    refine r_iload C dX6_findPages_128 1 rfl ?_
                    refine r_aload_n C dX6_findPages_130 2 rfl ?_
                    refine gX6_53 C dX6_findPages_131 ?_
                    refine r_iload_n C dX6_findPages_134 4 rfl ?_
                    refine r_iald 41 C dX6_findPages_135 (by omega) (fun _ => rfl) (by omega) (by omega) (by decide) (fun g26 => ?_)
                    refine r_icmp_gt (tgt := 187) C dX6_findPages_136 (by decide) (by omega) (by omega) (fun hb1 => ?_) (fun hb1 => ?_)
                    · skip
                      refine r_iinc C dX6_findPages_187 (by decide) 5 rfl (fun z_ => [(3, iv z_), (5, iv ip), (4, iv ib), (0, .ref (a 18)), (1, iv v), (2, iv i)]) (fun _ => rfl) (fun m3 em3 => ?_)
                      refine r_goto (tgt := 44) C dX6_findPages_190 (by decide) ?_
                      refine r_sub [3, 4, 5, 0] (L' := [(0, .ref (a 18)), (1, iv v), (2, iv i), (3, iv m3)]) rfl ?_
                      exact ih44 _ _ (by omega) (by subst em3; first | exact ⟨hag2, hj.keep (by omega) (by omega) hcb hcg (by omega) (by omega)⟩ | exact ⟨((hag2.up (Or.inr (Or.inr rfl)) _ _).up (Or.inl rfl) _ _).up (Or.inr (Or.inl rfl)) _ _, hj.takeS (by omega) (by omega) hcb hcg (by omega)⟩)
                    · skip
                      refine r_iload C dX6_findPages_139 1 rfl ?_
                      refine r_aload_n C dX6_findPages_141 2 rfl ?_
                      refine gX6_53 C dX6_findPages_142 ?_
                      refine r_iload_n C dX6_findPages_145 4 rfl ?_
                      refine r_iald 41 C dX6_findPages_146 (by omega) (fun _ => rfl) (by omega) (by omega) (by decide) (fun g29 => ?_)
                      refine r_icmp_ne (tgt := 164) C dX6_findPages_147 (by decide) (by omega) (by omega) (fun hb2 => ?_) (fun hb2 => ?_)
                      · skip
                        refine r_aload_n C dX6_findPages_164 2 rfl ?_
                        refine gX6_59 C dX6_findPages_165 ?_
                        refine r_iload_n C dX6_findPages_168 4 rfl ?_
                        refine r_iload_n C dX6_findPages_169 5 rfl ?_
                        refine r_iast 41 C dX6_findPages_170 (by omega) (fun _ _ => rfl) (by omega) (by omega) (by decide) (by omega) ?_
                        refine r_aload_n C dX6_findPages_171 2 rfl ?_
                        refine gX6_53 C dX6_findPages_172 ?_
                        refine r_iload_n C dX6_findPages_175 4 rfl ?_
                        refine r_iload C dX6_findPages_176 1 rfl ?_
                        refine r_iast 41 C dX6_findPages_178 (by omega) (fun _ _ => rfl) (by omega) (by omega) (by decide) (by omega) ?_
                        refine r_aload_n C dX6_findPages_179 2 rfl ?_
                        refine gX6_56 C dX6_findPages_180 ?_
                        refine r_iload_n C dX6_findPages_183 4 rfl ?_
                        refine r_iload C dX6_findPages_184 0 rfl ?_
                        refine r_iast 41 C dX6_findPages_186 (by omega) (fun _ _ => rfl) (by omega) (by omega) (by decide) (by omega) ?_
                        refine r_iinc C dX6_findPages_187 (by decide) 5 rfl (fun z_ => [(3, iv z_), (5, iv ip), (4, iv ib), (0, .ref (a 18)), (1, iv v), (2, iv i)]) (fun _ => rfl) (fun m3 em3 => ?_)
                        refine r_goto (tgt := 44) C dX6_findPages_190 (by decide) ?_
                        refine r_sub [3, 4, 5, 0] (L' := [(0, .ref (a 18)), (1, iv v), (2, iv i), (3, iv m3)]) rfl ?_
                        exact ih44 _ _ (by omega) (by subst em3; first | exact ⟨hag2, hj.keep (by omega) (by omega) hcb hcg (by omega) (by omega)⟩ | exact ⟨((hag2.up (Or.inr (Or.inr rfl)) _ _).up (Or.inl rfl) _ _).up (Or.inr (Or.inl rfl)) _ _, hj.takeS (by omega) (by omega) hcb hcg (by omega)⟩)
                      · skip
                        refine r_iload C dX6_findPages_150 0 rfl ?_
                        refine r_aload_n C dX6_findPages_152 2 rfl ?_
                        refine gX6_56 C dX6_findPages_153 ?_
                        refine r_iload_n C dX6_findPages_156 4 rfl ?_
                        refine r_iald 41 C dX6_findPages_157 (by omega) (fun _ => rfl) (by omega) (by omega) (by decide) (fun g35 => ?_)
                        refine r_icmp_lt (tgt := 164) C dX6_findPages_158 (by decide) (by omega) (by omega) (fun hb3 => ?_) (fun hb3 => ?_)
                        · skip
                          refine r_aload_n C dX6_findPages_164 2 rfl ?_
                          refine gX6_59 C dX6_findPages_165 ?_
                          refine r_iload_n C dX6_findPages_168 4 rfl ?_
                          refine r_iload_n C dX6_findPages_169 5 rfl ?_
                          refine r_iast 41 C dX6_findPages_170 (by omega) (fun _ _ => rfl) (by omega) (by omega) (by decide) (by omega) ?_
                          refine r_aload_n C dX6_findPages_171 2 rfl ?_
                          refine gX6_53 C dX6_findPages_172 ?_
                          refine r_iload_n C dX6_findPages_175 4 rfl ?_
                          refine r_iload C dX6_findPages_176 1 rfl ?_
                          refine r_iast 41 C dX6_findPages_178 (by omega) (fun _ _ => rfl) (by omega) (by omega) (by decide) (by omega) ?_
                          refine r_aload_n C dX6_findPages_179 2 rfl ?_
                          refine gX6_56 C dX6_findPages_180 ?_
                          refine r_iload_n C dX6_findPages_183 4 rfl ?_
                          refine r_iload C dX6_findPages_184 0 rfl ?_
                          refine r_iast 41 C dX6_findPages_186 (by omega) (fun _ _ => rfl) (by omega) (by omega) (by decide) (by omega) ?_
                          refine r_iinc C dX6_findPages_187 (by decide) 5 rfl (fun z_ => [(3, iv z_), (5, iv ip), (4, iv ib), (0, .ref (a 18)), (1, iv v), (2, iv i)]) (fun _ => rfl) (fun m3 em3 => ?_)
                          refine r_goto (tgt := 44) C dX6_findPages_190 (by decide) ?_
                          refine r_sub [3, 4, 5, 0] (L' := [(0, .ref (a 18)), (1, iv v), (2, iv i), (3, iv m3)]) rfl ?_
                          exact ih44 _ _ (by omega) (by subst em3; first | exact ⟨hag2, hj.keep (by omega) (by omega) hcb hcg (by omega) (by omega)⟩ | exact ⟨((hag2.up (Or.inr (Or.inr rfl)) _ _).up (Or.inl rfl) _ _).up (Or.inr (Or.inl rfl)) _ _, hj.takeS (by omega) (by omega) hcb hcg (by omega)⟩)
                        · skip
                          refine r_goto (tgt := 187) C dX6_findPages_161 (by decide) ?_
                          refine r_iinc C dX6_findPages_187 (by decide) 5 rfl (fun z_ => [(3, iv z_), (5, iv ip), (4, iv ib), (0, .ref (a 18)), (1, iv v), (2, iv i)]) (fun _ => rfl) (fun m3 em3 => ?_)
                          refine r_goto (tgt := 44) C dX6_findPages_190 (by decide) ?_
                          refine r_sub [3, 4, 5, 0] (L' := [(0, .ref (a 18)), (1, iv v), (2, iv i), (3, iv m3)]) rfl ?_
                          exact ih44 _ _ (by omega) (by subst em3; first | exact ⟨hag2, hj.keep (by omega) (by omega) hcb hcg (by omega) (by omega)⟩ | exact ⟨((hag2.up (Or.inr (Or.inr rfl)) _ _).up (Or.inl rfl) _ _).up (Or.inr (Or.inl rfl)) _ _, hj.takeS (by omega) (by omega) hcb hcg (by omega)⟩)
                · skip
                  refine r_aload_n C dX6_findPages_88 0 rfl ?_
                  refine r_iload_n C dX6_findPages_89 1 rfl ?_
                  refine r_iload_n C dX6_findPages_90 2 rfl ?_
                  refine r_iload_n C dX6_findPages_91 3 rfl ?_
                  refine r_iadd C dX6_findPages_92 ?_
                  refine r_callB2 18 C dX6_findPages_93 lkX6_140 (m_X6_isBad hMt hIt (by omega) (by omega)) ⟨rfl, rfl, Nat.le_of_ble_eq_true rfl, Nat.le_of_ble_eq_true rfl⟩ ⟨Nat.zero_le _, Nat.zero_le _⟩ rc18 (Nat.le_of_ble_eq_true rfl) (fun hbd => ?_) (fun hbd => ?_)
                  · skip
                    refine r_if_eq (tgt := 103) C dX6_findPages_96 (by decide) (by decide) (fun q => absurd q (by decide)) (fun _ => ?_)
                    refine r_iconst C dX6_findPages_99 ?_
                    refine r_goto (tgt := 104) C dX6_findPages_100 (by decide) ?_
                    refine r_iadd C dX6_findPages_104 ?_
                    refine r_istore C dX6_findPages_105 (by decide) (fun z_ => [(4, iv z_), (0, .ref (a 18)), (1, iv v), (2, iv i), (3, iv m)]) (fun _ => rfl) (fun ib eib => ?_)
                    refine r_aload_n C dX6_findPages_107 1 rfl ?_
                    refine gX6_56 C dX6_findPages_108 ?_
                    refine r_iload_n C dX6_findPages_111 3 rfl ?_
                    refine r_iload_n C dX6_findPages_112 4 rfl ?_
                    refine r_iadd C dX6_findPages_113 ?_
                    refine r_iald 41 C dX6_findPages_114 (by omega) (fun _ => rfl) (by omega) (by omega) (by decide) (fun g42 => ?_)
                    refine r_iconst C dX6_findPages_115 ?_
                    refine r_iadd C dX6_findPages_116 ?_
                    refine r_istore C dX6_findPages_117 (by decide) (fun z_ => [(5, iv z_), (4, iv ib), (0, .ref (a 18)), (1, iv v), (2, iv i), (3, iv m)]) (fun _ => rfl) (fun ip eip => ?_)
                    have hcb : ib = τ 29 (i + m) + btM ρ v (i + m) := by
                      unfold btM
                      try rw [agfrM hag2, agndM hag2] at hbd
                      first
                        | (rw [if_neg (by omega)]; omega)
                        | (rw [if_pos ⟨by omega, hbd⟩]; omega)
                        | (rw [if_neg (fun q => hbd q.2)]; omega)
                    have hcg : ip = τ 30 (i + m) + 1 := by omega
                    refine r_aload_n C dX6_findPages_119 2 rfl ?_
                    refine gX6_59 C dX6_findPages_120 ?_
                    refine r_iload_n C dX6_findPages_123 4 rfl ?_
                    refine r_iald 41 C dX6_findPages_124 (by omega) (fun _ => rfl) (by omega) (by omega) (by decide) (fun g44 => ?_)
                    refine r_if_le (tgt := 164) C dX6_findPages_125 (by decide) (by omega) (fun hz => ?_) (fun hz => ?_)
                    · skip
                      refine r_aload_n C dX6_findPages_164 2 rfl ?_
                      refine gX6_59 C dX6_findPages_165 ?_
                      refine r_iload_n C dX6_findPages_168 4 rfl ?_
                      refine r_iload_n C dX6_findPages_169 5 rfl ?_
                      refine r_iast 41 C dX6_findPages_170 (by omega) (fun _ _ => rfl) (by omega) (by omega) (by decide) (by omega) ?_
                      refine r_aload_n C dX6_findPages_171 2 rfl ?_
                      refine gX6_53 C dX6_findPages_172 ?_
                      refine r_iload_n C dX6_findPages_175 4 rfl ?_
                      refine r_iload C dX6_findPages_176 1 rfl ?_
                      refine r_iast 41 C dX6_findPages_178 (by omega) (fun _ _ => rfl) (by omega) (by omega) (by decide) (by omega) ?_
                      refine r_aload_n C dX6_findPages_179 2 rfl ?_
                      refine gX6_56 C dX6_findPages_180 ?_
                      refine r_iload_n C dX6_findPages_183 4 rfl ?_
                      refine r_iload C dX6_findPages_184 0 rfl ?_
                      refine r_iast 41 C dX6_findPages_186 (by omega) (fun _ _ => rfl) (by omega) (by omega) (by decide) (by omega) ?_
                      refine r_iinc C dX6_findPages_187 (by decide) 5 rfl (fun z_ => [(3, iv z_), (5, iv ip), (4, iv ib), (0, .ref (a 18)), (1, iv v), (2, iv i)]) (fun _ => rfl) (fun m3 em3 => ?_)
                      refine r_goto (tgt := 44) C dX6_findPages_190 (by decide) ?_
                      refine r_sub [3, 4, 5, 0] (L' := [(0, .ref (a 18)), (1, iv v), (2, iv i), (3, iv m3)]) rfl ?_
                      exact ih44 _ _ (by omega) (by subst em3; first | exact ⟨hag2, hj.keep (by omega) (by omega) hcb hcg (by omega) (by omega)⟩ | exact ⟨((hag2.up (Or.inr (Or.inr rfl)) _ _).up (Or.inl rfl) _ _).up (Or.inr (Or.inl rfl)) _ _, hj.takeS (by omega) (by omega) hcb hcg (by omega)⟩)
                    · skip
                      refine r_iload C dX6_findPages_128 1 rfl ?_
                      refine r_aload_n C dX6_findPages_130 2 rfl ?_
                      refine gX6_53 C dX6_findPages_131 ?_
                      refine r_iload_n C dX6_findPages_134 4 rfl ?_
                      refine r_iald 41 C dX6_findPages_135 (by omega) (fun _ => rfl) (by omega) (by omega) (by decide) (fun g50 => ?_)
                      refine r_icmp_gt (tgt := 187) C dX6_findPages_136 (by decide) (by omega) (by omega) (fun hb1 => ?_) (fun hb1 => ?_)
                      · skip
                        refine r_iinc C dX6_findPages_187 (by decide) 5 rfl (fun z_ => [(3, iv z_), (5, iv ip), (4, iv ib), (0, .ref (a 18)), (1, iv v), (2, iv i)]) (fun _ => rfl) (fun m3 em3 => ?_)
                        refine r_goto (tgt := 44) C dX6_findPages_190 (by decide) ?_
                        refine r_sub [3, 4, 5, 0] (L' := [(0, .ref (a 18)), (1, iv v), (2, iv i), (3, iv m3)]) rfl ?_
                        exact ih44 _ _ (by omega) (by subst em3; first | exact ⟨hag2, hj.keep (by omega) (by omega) hcb hcg (by omega) (by omega)⟩ | exact ⟨((hag2.up (Or.inr (Or.inr rfl)) _ _).up (Or.inl rfl) _ _).up (Or.inr (Or.inl rfl)) _ _, hj.takeS (by omega) (by omega) hcb hcg (by omega)⟩)
                      · skip
                        refine r_iload C dX6_findPages_139 1 rfl ?_
                        refine r_aload_n C dX6_findPages_141 2 rfl ?_
                        refine gX6_53 C dX6_findPages_142 ?_
                        refine r_iload_n C dX6_findPages_145 4 rfl ?_
                        refine r_iald 41 C dX6_findPages_146 (by omega) (fun _ => rfl) (by omega) (by omega) (by decide) (fun g53 => ?_)
                        refine r_icmp_ne (tgt := 164) C dX6_findPages_147 (by decide) (by omega) (by omega) (fun hb2 => ?_) (fun hb2 => ?_)
                        · skip
                          refine r_aload_n C dX6_findPages_164 2 rfl ?_
                          refine gX6_59 C dX6_findPages_165 ?_
                          refine r_iload_n C dX6_findPages_168 4 rfl ?_
                          refine r_iload_n C dX6_findPages_169 5 rfl ?_
                          refine r_iast 41 C dX6_findPages_170 (by omega) (fun _ _ => rfl) (by omega) (by omega) (by decide) (by omega) ?_
                          refine r_aload_n C dX6_findPages_171 2 rfl ?_
                          refine gX6_53 C dX6_findPages_172 ?_
                          refine r_iload_n C dX6_findPages_175 4 rfl ?_
                          refine r_iload C dX6_findPages_176 1 rfl ?_
                          refine r_iast 41 C dX6_findPages_178 (by omega) (fun _ _ => rfl) (by omega) (by omega) (by decide) (by omega) ?_
                          refine r_aload_n C dX6_findPages_179 2 rfl ?_
                          refine gX6_56 C dX6_findPages_180 ?_
                          refine r_iload_n C dX6_findPages_183 4 rfl ?_
                          refine r_iload C dX6_findPages_184 0 rfl ?_
                          refine r_iast 41 C dX6_findPages_186 (by omega) (fun _ _ => rfl) (by omega) (by omega) (by decide) (by omega) ?_
                          refine r_iinc C dX6_findPages_187 (by decide) 5 rfl (fun z_ => [(3, iv z_), (5, iv ip), (4, iv ib), (0, .ref (a 18)), (1, iv v), (2, iv i)]) (fun _ => rfl) (fun m3 em3 => ?_)
                          refine r_goto (tgt := 44) C dX6_findPages_190 (by decide) ?_
                          refine r_sub [3, 4, 5, 0] (L' := [(0, .ref (a 18)), (1, iv v), (2, iv i), (3, iv m3)]) rfl ?_
                          exact ih44 _ _ (by omega) (by subst em3; first | exact ⟨hag2, hj.keep (by omega) (by omega) hcb hcg (by omega) (by omega)⟩ | exact ⟨((hag2.up (Or.inr (Or.inr rfl)) _ _).up (Or.inl rfl) _ _).up (Or.inr (Or.inl rfl)) _ _, hj.takeS (by omega) (by omega) hcb hcg (by omega)⟩)
                        · skip
                          refine r_iload C dX6_findPages_150 0 rfl ?_
                          refine r_aload_n C dX6_findPages_152 2 rfl ?_
                          refine gX6_56 C dX6_findPages_153 ?_
                          refine r_iload_n C dX6_findPages_156 4 rfl ?_
                          refine r_iald 41 C dX6_findPages_157 (by omega) (fun _ => rfl) (by omega) (by omega) (by decide) (fun g59 => ?_)
                          refine r_icmp_lt (tgt := 164) C dX6_findPages_158 (by decide) (by omega) (by omega) (fun hb3 => ?_) (fun hb3 => ?_)
                          · skip
                            refine r_aload_n C dX6_findPages_164 2 rfl ?_
                            refine gX6_59 C dX6_findPages_165 ?_
                            refine r_iload_n C dX6_findPages_168 4 rfl ?_
                            refine r_iload_n C dX6_findPages_169 5 rfl ?_
                            refine r_iast 41 C dX6_findPages_170 (by omega) (fun _ _ => rfl) (by omega) (by omega) (by decide) (by omega) ?_
                            refine r_aload_n C dX6_findPages_171 2 rfl ?_
                            refine gX6_53 C dX6_findPages_172 ?_
                            refine r_iload_n C dX6_findPages_175 4 rfl ?_
                            refine r_iload C dX6_findPages_176 1 rfl ?_
                            refine r_iast 41 C dX6_findPages_178 (by omega) (fun _ _ => rfl) (by omega) (by omega) (by decide) (by omega) ?_
                            refine r_aload_n C dX6_findPages_179 2 rfl ?_
                            refine gX6_56 C dX6_findPages_180 ?_
                            refine r_iload_n C dX6_findPages_183 4 rfl ?_
                            refine r_iload C dX6_findPages_184 0 rfl ?_
                            refine r_iast 41 C dX6_findPages_186 (by omega) (fun _ _ => rfl) (by omega) (by omega) (by decide) (by omega) ?_
                            refine r_iinc C dX6_findPages_187 (by decide) 5 rfl (fun z_ => [(3, iv z_), (5, iv ip), (4, iv ib), (0, .ref (a 18)), (1, iv v), (2, iv i)]) (fun _ => rfl) (fun m3 em3 => ?_)
                            refine r_goto (tgt := 44) C dX6_findPages_190 (by decide) ?_
                            refine r_sub [3, 4, 5, 0] (L' := [(0, .ref (a 18)), (1, iv v), (2, iv i), (3, iv m3)]) rfl ?_
                            exact ih44 _ _ (by omega) (by subst em3; first | exact ⟨hag2, hj.keep (by omega) (by omega) hcb hcg (by omega) (by omega)⟩ | exact ⟨((hag2.up (Or.inr (Or.inr rfl)) _ _).up (Or.inl rfl) _ _).up (Or.inr (Or.inl rfl)) _ _, hj.takeS (by omega) (by omega) hcb hcg (by omega)⟩)
                          · skip
                            refine r_goto (tgt := 187) C dX6_findPages_161 (by decide) ?_
                            refine r_iinc C dX6_findPages_187 (by decide) 5 rfl (fun z_ => [(3, iv z_), (5, iv ip), (4, iv ib), (0, .ref (a 18)), (1, iv v), (2, iv i)]) (fun _ => rfl) (fun m3 em3 => ?_)
                            refine r_goto (tgt := 44) C dX6_findPages_190 (by decide) ?_
                            refine r_sub [3, 4, 5, 0] (L' := [(0, .ref (a 18)), (1, iv v), (2, iv i), (3, iv m3)]) rfl ?_
                            exact ih44 _ _ (by omega) (by subst em3; first | exact ⟨hag2, hj.keep (by omega) (by omega) hcb hcg (by omega) (by omega)⟩ | exact ⟨((hag2.up (Or.inr (Or.inr rfl)) _ _).up (Or.inl rfl) _ _).up (Or.inr (Or.inl rfl)) _ _, hj.takeS (by omega) (by omega) hcb hcg (by omega)⟩)
                  · skip
                    refine r_if_eq (tgt := 103) C dX6_findPages_96 (by decide) (by decide) (fun _ => ?_) (fun q => absurd q (by decide))
                    refine r_iconst C dX6_findPages_103 ?_
                    refine r_iadd C dX6_findPages_104 ?_
                    refine r_istore C dX6_findPages_105 (by decide) (fun z_ => [(4, iv z_), (0, .ref (a 18)), (1, iv v), (2, iv i), (3, iv m)]) (fun _ => rfl) (fun ib eib => ?_)
                    refine r_aload_n C dX6_findPages_107 1 rfl ?_
                    refine gX6_56 C dX6_findPages_108 ?_
                    refine r_iload_n C dX6_findPages_111 3 rfl ?_
                    refine r_iload_n C dX6_findPages_112 4 rfl ?_
                    refine r_iadd C dX6_findPages_113 ?_
                    refine r_iald 41 C dX6_findPages_114 (by omega) (fun _ => rfl) (by omega) (by omega) (by decide) (fun g66 => ?_)
                    refine r_iconst C dX6_findPages_115 ?_
                    refine r_iadd C dX6_findPages_116 ?_
                    refine r_istore C dX6_findPages_117 (by decide) (fun z_ => [(5, iv z_), (4, iv ib), (0, .ref (a 18)), (1, iv v), (2, iv i), (3, iv m)]) (fun _ => rfl) (fun ip eip => ?_)
                    have hcb : ib = τ 29 (i + m) + btM ρ v (i + m) := by
                      unfold btM
                      try rw [agfrM hag2, agndM hag2] at hbd
                      first
                        | (rw [if_neg (by omega)]; omega)
                        | (rw [if_pos ⟨by omega, hbd⟩]; omega)
                        | (rw [if_neg (fun q => hbd q.2)]; omega)
                    have hcg : ip = τ 30 (i + m) + 1 := by omega
                    refine r_aload_n C dX6_findPages_119 2 rfl ?_
                    refine gX6_59 C dX6_findPages_120 ?_
                    refine r_iload_n C dX6_findPages_123 4 rfl ?_
                    refine r_iald 41 C dX6_findPages_124 (by omega) (fun _ => rfl) (by omega) (by omega) (by decide) (fun g68 => ?_)
                    refine r_if_le (tgt := 164) C dX6_findPages_125 (by decide) (by omega) (fun hz => ?_) (fun hz => ?_)
                    · skip
                      refine r_aload_n C dX6_findPages_164 2 rfl ?_
                      refine gX6_59 C dX6_findPages_165 ?_
                      refine r_iload_n C dX6_findPages_168 4 rfl ?_
                      refine r_iload_n C dX6_findPages_169 5 rfl ?_
                      refine r_iast 41 C dX6_findPages_170 (by omega) (fun _ _ => rfl) (by omega) (by omega) (by decide) (by omega) ?_
                      refine r_aload_n C dX6_findPages_171 2 rfl ?_
                      refine gX6_53 C dX6_findPages_172 ?_
                      refine r_iload_n C dX6_findPages_175 4 rfl ?_
                      refine r_iload C dX6_findPages_176 1 rfl ?_
                      refine r_iast 41 C dX6_findPages_178 (by omega) (fun _ _ => rfl) (by omega) (by omega) (by decide) (by omega) ?_
                      refine r_aload_n C dX6_findPages_179 2 rfl ?_
                      refine gX6_56 C dX6_findPages_180 ?_
                      refine r_iload_n C dX6_findPages_183 4 rfl ?_
                      refine r_iload C dX6_findPages_184 0 rfl ?_
                      refine r_iast 41 C dX6_findPages_186 (by omega) (fun _ _ => rfl) (by omega) (by omega) (by decide) (by omega) ?_
                      refine r_iinc C dX6_findPages_187 (by decide) 5 rfl (fun z_ => [(3, iv z_), (5, iv ip), (4, iv ib), (0, .ref (a 18)), (1, iv v), (2, iv i)]) (fun _ => rfl) (fun m3 em3 => ?_)
                      refine r_goto (tgt := 44) C dX6_findPages_190 (by decide) ?_
                      refine r_sub [3, 4, 5, 0] (L' := [(0, .ref (a 18)), (1, iv v), (2, iv i), (3, iv m3)]) rfl ?_
                      exact ih44 _ _ (by omega) (by subst em3; first | exact ⟨hag2, hj.keep (by omega) (by omega) hcb hcg (by omega) (by omega)⟩ | exact ⟨((hag2.up (Or.inr (Or.inr rfl)) _ _).up (Or.inl rfl) _ _).up (Or.inr (Or.inl rfl)) _ _, hj.takeS (by omega) (by omega) hcb hcg (by omega)⟩)
                    · skip
                      refine r_iload C dX6_findPages_128 1 rfl ?_
                      refine r_aload_n C dX6_findPages_130 2 rfl ?_
                      refine gX6_53 C dX6_findPages_131 ?_
                      refine r_iload_n C dX6_findPages_134 4 rfl ?_
                      refine r_iald 41 C dX6_findPages_135 (by omega) (fun _ => rfl) (by omega) (by omega) (by decide) (fun g74 => ?_)
                      refine r_icmp_gt (tgt := 187) C dX6_findPages_136 (by decide) (by omega) (by omega) (fun hb1 => ?_) (fun hb1 => ?_)
                      · skip
                        refine r_iinc C dX6_findPages_187 (by decide) 5 rfl (fun z_ => [(3, iv z_), (5, iv ip), (4, iv ib), (0, .ref (a 18)), (1, iv v), (2, iv i)]) (fun _ => rfl) (fun m3 em3 => ?_)
                        refine r_goto (tgt := 44) C dX6_findPages_190 (by decide) ?_
                        refine r_sub [3, 4, 5, 0] (L' := [(0, .ref (a 18)), (1, iv v), (2, iv i), (3, iv m3)]) rfl ?_
                        exact ih44 _ _ (by omega) (by subst em3; first | exact ⟨hag2, hj.keep (by omega) (by omega) hcb hcg (by omega) (by omega)⟩ | exact ⟨((hag2.up (Or.inr (Or.inr rfl)) _ _).up (Or.inl rfl) _ _).up (Or.inr (Or.inl rfl)) _ _, hj.takeS (by omega) (by omega) hcb hcg (by omega)⟩)
                      · skip
                        refine r_iload C dX6_findPages_139 1 rfl ?_
                        refine r_aload_n C dX6_findPages_141 2 rfl ?_
                        refine gX6_53 C dX6_findPages_142 ?_
                        refine r_iload_n C dX6_findPages_145 4 rfl ?_
                        refine r_iald 41 C dX6_findPages_146 (by omega) (fun _ => rfl) (by omega) (by omega) (by decide) (fun g77 => ?_)
                        refine r_icmp_ne (tgt := 164) C dX6_findPages_147 (by decide) (by omega) (by omega) (fun hb2 => ?_) (fun hb2 => ?_)
                        · skip
                          refine r_aload_n C dX6_findPages_164 2 rfl ?_
                          refine gX6_59 C dX6_findPages_165 ?_
                          refine r_iload_n C dX6_findPages_168 4 rfl ?_
                          refine r_iload_n C dX6_findPages_169 5 rfl ?_
                          refine r_iast 41 C dX6_findPages_170 (by omega) (fun _ _ => rfl) (by omega) (by omega) (by decide) (by omega) ?_
                          refine r_aload_n C dX6_findPages_171 2 rfl ?_
                          refine gX6_53 C dX6_findPages_172 ?_
                          refine r_iload_n C dX6_findPages_175 4 rfl ?_
                          refine r_iload C dX6_findPages_176 1 rfl ?_
                          refine r_iast 41 C dX6_findPages_178 (by omega) (fun _ _ => rfl) (by omega) (by omega) (by decide) (by omega) ?_
                          refine r_aload_n C dX6_findPages_179 2 rfl ?_
                          refine gX6_56 C dX6_findPages_180 ?_
                          refine r_iload_n C dX6_findPages_183 4 rfl ?_
                          refine r_iload C dX6_findPages_184 0 rfl ?_
                          refine r_iast 41 C dX6_findPages_186 (by omega) (fun _ _ => rfl) (by omega) (by omega) (by decide) (by omega) ?_
                          refine r_iinc C dX6_findPages_187 (by decide) 5 rfl (fun z_ => [(3, iv z_), (5, iv ip), (4, iv ib), (0, .ref (a 18)), (1, iv v), (2, iv i)]) (fun _ => rfl) (fun m3 em3 => ?_)
                          refine r_goto (tgt := 44) C dX6_findPages_190 (by decide) ?_
                          refine r_sub [3, 4, 5, 0] (L' := [(0, .ref (a 18)), (1, iv v), (2, iv i), (3, iv m3)]) rfl ?_
                          exact ih44 _ _ (by omega) (by subst em3; first | exact ⟨hag2, hj.keep (by omega) (by omega) hcb hcg (by omega) (by omega)⟩ | exact ⟨((hag2.up (Or.inr (Or.inr rfl)) _ _).up (Or.inl rfl) _ _).up (Or.inr (Or.inl rfl)) _ _, hj.takeS (by omega) (by omega) hcb hcg (by omega)⟩)
                        · skip
                          refine r_iload C dX6_findPages_150 0 rfl ?_
                          refine r_aload_n C dX6_findPages_152 2 rfl ?_
                          refine gX6_56 C dX6_findPages_153 ?_
                          refine r_iload_n C dX6_findPages_156 4 rfl ?_
                          refine r_iald 41 C dX6_findPages_157 (by omega) (fun _ => rfl) (by omega) (by omega) (by decide) (fun g83 => ?_)
                          refine r_icmp_lt (tgt := 164) C dX6_findPages_158 (by decide) (by omega) (by omega) (fun hb3 => ?_) (fun hb3 => ?_)
                          · skip
                            refine r_aload_n C dX6_findPages_164 2 rfl ?_
                            refine gX6_59 C dX6_findPages_165 ?_
                            refine r_iload_n C dX6_findPages_168 4 rfl ?_
                            refine r_iload_n C dX6_findPages_169 5 rfl ?_
                            refine r_iast 41 C dX6_findPages_170 (by omega) (fun _ _ => rfl) (by omega) (by omega) (by decide) (by omega) ?_
                            refine r_aload_n C dX6_findPages_171 2 rfl ?_
                            refine gX6_53 C dX6_findPages_172 ?_
                            refine r_iload_n C dX6_findPages_175 4 rfl ?_
                            refine r_iload C dX6_findPages_176 1 rfl ?_
                            refine r_iast 41 C dX6_findPages_178 (by omega) (fun _ _ => rfl) (by omega) (by omega) (by decide) (by omega) ?_
                            refine r_aload_n C dX6_findPages_179 2 rfl ?_
                            refine gX6_56 C dX6_findPages_180 ?_
                            refine r_iload_n C dX6_findPages_183 4 rfl ?_
                            refine r_iload C dX6_findPages_184 0 rfl ?_
                            refine r_iast 41 C dX6_findPages_186 (by omega) (fun _ _ => rfl) (by omega) (by omega) (by decide) (by omega) ?_
                            refine r_iinc C dX6_findPages_187 (by decide) 5 rfl (fun z_ => [(3, iv z_), (5, iv ip), (4, iv ib), (0, .ref (a 18)), (1, iv v), (2, iv i)]) (fun _ => rfl) (fun m3 em3 => ?_)
                            refine r_goto (tgt := 44) C dX6_findPages_190 (by decide) ?_
                            refine r_sub [3, 4, 5, 0] (L' := [(0, .ref (a 18)), (1, iv v), (2, iv i), (3, iv m3)]) rfl ?_
                            exact ih44 _ _ (by omega) (by subst em3; first | exact ⟨hag2, hj.keep (by omega) (by omega) hcb hcg (by omega) (by omega)⟩ | exact ⟨((hag2.up (Or.inr (Or.inr rfl)) _ _).up (Or.inl rfl) _ _).up (Or.inr (Or.inl rfl)) _ _, hj.takeS (by omega) (by omega) hcb hcg (by omega)⟩)
                          · skip
                            refine r_goto (tgt := 187) C dX6_findPages_161 (by decide) ?_
                            refine r_iinc C dX6_findPages_187 (by decide) 5 rfl (fun z_ => [(3, iv z_), (5, iv ip), (4, iv ib), (0, .ref (a 18)), (1, iv v), (2, iv i)]) (fun _ => rfl) (fun m3 em3 => ?_)
                            refine r_goto (tgt := 44) C dX6_findPages_190 (by decide) ?_
                            refine r_sub [3, 4, 5, 0] (L' := [(0, .ref (a 18)), (1, iv v), (2, iv i), (3, iv m3)]) rfl ?_
                            exact ih44 _ _ (by omega) (by subst em3; first | exact ⟨hag2, hj.keep (by omega) (by omega) hcb hcg (by omega) (by omega)⟩ | exact ⟨((hag2.up (Or.inr (Or.inr rfl)) _ _).up (Or.inl rfl) _ _).up (Or.inr (Or.inl rfl)) _ _, hj.takeS (by omega) (by omega) hcb hcg (by omega)⟩)
        refine r_sub [1, 2, 3, 0] (L' := [(0, .ref (a 18)), (1, iv v), (2, iv i), (3, iv m0)]) rfl ?_
        exact lp44 ((ρ 18 18 - i : Int).toNat + 1) _ _ (by omega) (by subst em0; refine ⟨hag.up (Or.inr (Or.inr rfl)) _ _, ?_⟩; rw [up2_ne (show (29 : Nat) ≠ 31 by decide), up2_ne (show (30 : Nat) ≠ 31 by decide)]; exact DPJ.start (by omega) up2_self (fun j hj => up2_at hj))
  refine r_sub [1, 2, 0] (L' := [(0, .ref (a 18)), (1, iv v), (2, iv i0)]) rfl ?_
  exact lp31 ((ρ 18 18 : Int).toNat + 1) _ _ (by omega) (by subst ei0; refine ⟨(AgM.up (AgM.up (fun _ _ _ _ => rfl) (Or.inl rfl) _ _) (Or.inr (Or.inl rfl)) _ _), by omega, by omega, by rw [up2_ne (by decide), up2_self], by rw [up2_self], fun j h1 h2 => by omega, fun j h1 h2 => ?_⟩; have hj : j = ρ 18 18 := (by omega); subst hj; rw [up2_ne (by decide), up2_self, up2_self]; omega)
end
