section
-- ===== PART A: goes FIRST, ahead of the names: the tables' words, and 'selects' of the private methods out of them =====
/-- a private method of a class that the tables say can be made, by its rows of tables_1 -/
def lw_okq (q : MethodName × Nat) : Prop := (q.1.cls ≠ "java/lang/invoke/MethodHandle" ∧ q.1.cls ≠ "java/lang/invoke/VarHandle") ∧ Cond.instantiable q.1.cls q.2 ∈ tables_1 ∧ Cond.privateMethod q.1 ∈ tables_1 ∧ Cond.instanceMethod q.1 ∈ tables_1
theorem lw_p0 : lw_okq (⟨"GraphNamer", "graphOf", "(I)LGraphNamer$Graph;"⟩, 6) := ⟨⟨by decide +kernel, by decide +kernel⟩, List.mem_of_getElem? (i := 17) (by decide +kernel), List.mem_of_getElem? (i := 127) (by decide +kernel), List.mem_of_getElem? (i := 128) (by decide +kernel)⟩
theorem lw_p1 : lw_okq (⟨"java/lang/Throwable", "fillInStackTrace", "(I)Ljava/lang/Throwable;"⟩, 6) := ⟨⟨by decide +kernel, by decide +kernel⟩, List.mem_of_getElem? (i := 169) (by decide +kernel), List.mem_of_getElem? (i := 167) (by decide +kernel), List.mem_of_getElem? (i := 168) (by decide +kernel)⟩
theorem lw_p2 : lw_okq (⟨"GraphNamer", "graphWith", "(II)LGraphNamer$Graph;"⟩, 6) := ⟨⟨by decide +kernel, by decide +kernel⟩, List.mem_of_getElem? (i := 17) (by decide +kernel), List.mem_of_getElem? (i := 245) (by decide +kernel), List.mem_of_getElem? (i := 246) (by decide +kernel)⟩
theorem lw_p3 : lw_okq (⟨"GraphNamer", "graphWithPair", "(III)LGraphNamer$Graph;"⟩, 6) := ⟨⟨by decide +kernel, by decide +kernel⟩, List.mem_of_getElem? (i := 17) (by decide +kernel), List.mem_of_getElem? (i := 260) (by decide +kernel), List.mem_of_getElem? (i := 261) (by decide +kernel)⟩
theorem lw_p4 : lw_okq (⟨"GraphNamer$Numbering", "fill", "(LGraphNamer$Graph;III)V"⟩, 4) := ⟨⟨by decide +kernel, by decide +kernel⟩, List.mem_of_getElem? (i := 52) (by decide +kernel), List.mem_of_getElem? (i := 342) (by decide +kernel), List.mem_of_getElem? (i := 343) (by decide +kernel)⟩
theorem lw_p5 : lw_okq (⟨"GraphNamer$Numbering", "keepIfLess", "(II)V"⟩, 4) := ⟨⟨by decide +kernel, by decide +kernel⟩, List.mem_of_getElem? (i := 52) (by decide +kernel), List.mem_of_getElem? (i := 346) (by decide +kernel), List.mem_of_getElem? (i := 347) (by decide +kernel)⟩
theorem lw_p6 : lw_okq (⟨"GraphNamer$Numbering", "leastBits", "(LGraphNamer$Graph;II)I"⟩, 4) := ⟨⟨by decide +kernel, by decide +kernel⟩, List.mem_of_getElem? (i := 52) (by decide +kernel), List.mem_of_getElem? (i := 360) (by decide +kernel), List.mem_of_getElem? (i := 361) (by decide +kernel)⟩
theorem lw_p7 : lw_okq (⟨"GraphNamer$Numbering", "bitsAt", "(LGraphNamer$Graph;II)I"⟩, 4) := ⟨⟨by decide +kernel, by decide +kernel⟩, List.mem_of_getElem? (i := 52) (by decide +kernel), List.mem_of_getElem? (i := 367) (by decide +kernel), List.mem_of_getElem? (i := 368) (by decide +kernel)⟩
theorem lw_p8 : lw_okq (⟨"GraphNamer$Laying", "fits", "(LGraphNamer$Graph;III)Z"⟩, 1) := ⟨⟨by decide +kernel, by decide +kernel⟩, List.mem_of_getElem? (i := 74) (by decide +kernel), List.mem_of_getElem? (i := 438) (by decide +kernel), List.mem_of_getElem? (i := 439) (by decide +kernel)⟩
theorem lw_p9 : lw_okq (⟨"GraphNamer$Laying", "canGoOn", "(LGraphNamer$Graph;III)Z"⟩, 1) := ⟨⟨by decide +kernel, by decide +kernel⟩, List.mem_of_getElem? (i := 74) (by decide +kernel), List.mem_of_getElem? (i := 444) (by decide +kernel), List.mem_of_getElem? (i := 445) (by decide +kernel)⟩
theorem lw_p10 : lw_okq (⟨"GraphNamer$Parting", "refine", "(LGraphNamer$Graph;)Z"⟩, 2) := ⟨⟨by decide +kernel, by decide +kernel⟩, List.mem_of_getElem? (i := 84) (by decide +kernel), List.mem_of_getElem? (i := 488) (by decide +kernel), List.mem_of_getElem? (i := 489) (by decide +kernel)⟩
theorem lw_p11 : lw_okq (⟨"GraphNamer$Parting", "agreeing", "(LGraphNamer$Graph;I)I"⟩, 2) := ⟨⟨by decide +kernel, by decide +kernel⟩, List.mem_of_getElem? (i := 84) (by decide +kernel), List.mem_of_getElem? (i := 492) (by decide +kernel), List.mem_of_getElem? (i := 493) (by decide +kernel)⟩
theorem lw_p12 : lw_okq (⟨"GraphNamer$Parting", "agree", "(LGraphNamer$Graph;II)Z"⟩, 2) := ⟨⟨by decide +kernel, by decide +kernel⟩, List.mem_of_getElem? (i := 84) (by decide +kernel), List.mem_of_getElem? (i := 497) (by decide +kernel), List.mem_of_getElem? (i := 498) (by decide +kernel)⟩
theorem lw_p13 : lw_okq (⟨"GraphNamer", "alike", "(LGraphNamer$Graph;LGraphNamer$Graph;)Z"⟩, 6) := ⟨⟨by decide +kernel, by decide +kernel⟩, List.mem_of_getElem? (i := 17) (by decide +kernel), List.mem_of_getElem? (i := 519) (by decide +kernel), List.mem_of_getElem? (i := 520) (by decide +kernel)⟩
theorem lw_p14 : lw_okq (⟨"GraphNamerModel", "refused", "(I)Z"⟩, 13) := ⟨⟨by decide +kernel, by decide +kernel⟩, List.mem_of_getElem? (i := 543) (by decide +kernel), List.mem_of_getElem? (i := 601) (by decide +kernel), List.mem_of_getElem? (i := 602) (by decide +kernel)⟩
theorem lw_p15 : lw_okq (⟨"GraphNamerModel", "set", "(IIIZ)V"⟩, 13) := ⟨⟨by decide +kernel, by decide +kernel⟩, List.mem_of_getElem? (i := 543) (by decide +kernel), List.mem_of_getElem? (i := 605) (by decide +kernel), List.mem_of_getElem? (i := 606) (by decide +kernel)⟩
def lw_privs_1 : List (MethodName × Nat) := [(⟨"GraphNamer", "graphOf", "(I)LGraphNamer$Graph;"⟩, 6), (⟨"java/lang/Throwable", "fillInStackTrace", "(I)Ljava/lang/Throwable;"⟩, 6), (⟨"GraphNamer", "graphWith", "(II)LGraphNamer$Graph;"⟩, 6), (⟨"GraphNamer", "graphWithPair", "(III)LGraphNamer$Graph;"⟩, 6), (⟨"GraphNamer$Numbering", "fill", "(LGraphNamer$Graph;III)V"⟩, 4), (⟨"GraphNamer$Numbering", "keepIfLess", "(II)V"⟩, 4), (⟨"GraphNamer$Numbering", "leastBits", "(LGraphNamer$Graph;II)I"⟩, 4), (⟨"GraphNamer$Numbering", "bitsAt", "(LGraphNamer$Graph;II)I"⟩, 4), (⟨"GraphNamer$Laying", "fits", "(LGraphNamer$Graph;III)Z"⟩, 1), (⟨"GraphNamer$Laying", "canGoOn", "(LGraphNamer$Graph;III)Z"⟩, 1), (⟨"GraphNamer$Parting", "refine", "(LGraphNamer$Graph;)Z"⟩, 2), (⟨"GraphNamer$Parting", "agreeing", "(LGraphNamer$Graph;I)I"⟩, 2), (⟨"GraphNamer$Parting", "agree", "(LGraphNamer$Graph;II)Z"⟩, 2), (⟨"GraphNamer", "alike", "(LGraphNamer$Graph;LGraphNamer$Graph;)Z"⟩, 6), (⟨"GraphNamerModel", "refused", "(I)Z"⟩, 13), (⟨"GraphNamerModel", "set", "(IIIZ)V"⟩, 13)]
theorem lw_r1 : ∀ q ∈ lw_privs_1, lw_okq q := List.forall_mem_cons.mpr ⟨lw_p0, List.forall_mem_cons.mpr ⟨lw_p1, List.forall_mem_cons.mpr ⟨lw_p2, List.forall_mem_cons.mpr ⟨lw_p3, List.forall_mem_cons.mpr ⟨lw_p4, List.forall_mem_cons.mpr ⟨lw_p5, List.forall_mem_cons.mpr ⟨lw_p6, List.forall_mem_cons.mpr ⟨lw_p7, List.forall_mem_cons.mpr ⟨lw_p8, List.forall_mem_cons.mpr ⟨lw_p9, List.forall_mem_cons.mpr ⟨lw_p10, List.forall_mem_cons.mpr ⟨lw_p11, List.forall_mem_cons.mpr ⟨lw_p12, List.forall_mem_cons.mpr ⟨lw_p13, List.forall_mem_cons.mpr ⟨lw_p14, List.forall_mem_cons.mpr ⟨lw_p15, fun _ h => absurd h List.not_mem_nil⟩⟩⟩⟩⟩⟩⟩⟩⟩⟩⟩⟩⟩⟩⟩⟩
theorem lw_p16 : lw_okq (⟨"GraphNamerModel", "noVertex", "(II)Z"⟩, 13) := ⟨⟨by decide +kernel, by decide +kernel⟩, List.mem_of_getElem? (i := 543) (by decide +kernel), List.mem_of_getElem? (i := 613) (by decide +kernel), List.mem_of_getElem? (i := 614) (by decide +kernel)⟩
theorem lw_p17 : lw_okq (⟨"GraphNamerModel", "colourOf", "(II)I"⟩, 13) := ⟨⟨by decide +kernel, by decide +kernel⟩, List.mem_of_getElem? (i := 543) (by decide +kernel), List.mem_of_getElem? (i := 617) (by decide +kernel), List.mem_of_getElem? (i := 618) (by decide +kernel)⟩
theorem lw_p18 : lw_okq (⟨"GraphNamerModel", "isEdge", "(III)Z"⟩, 13) := ⟨⟨by decide +kernel, by decide +kernel⟩, List.mem_of_getElem? (i := 543) (by decide +kernel), List.mem_of_getElem? (i := 625) (by decide +kernel), List.mem_of_getElem? (i := 626) (by decide +kernel)⟩
theorem lw_p19 : lw_okq (⟨"GraphNamerModel", "edges", "(I)I"⟩, 13) := ⟨⟨by decide +kernel, by decide +kernel⟩, List.mem_of_getElem? (i := 543) (by decide +kernel), List.mem_of_getElem? (i := 629) (by decide +kernel), List.mem_of_getElem? (i := 630) (by decide +kernel)⟩
theorem lw_p20 : lw_okq (⟨"GraphNamerModel", "seek", "(I)V"⟩, 13) := ⟨⟨by decide +kernel, by decide +kernel⟩, List.mem_of_getElem? (i := 543) (by decide +kernel), List.mem_of_getElem? (i := 653) (by decide +kernel), List.mem_of_getElem? (i := 654) (by decide +kernel)⟩
theorem lw_p21 : lw_okq (⟨"GraphNamerModel", "begin", "()V"⟩, 13) := ⟨⟨by decide +kernel, by decide +kernel⟩, List.mem_of_getElem? (i := 543) (by decide +kernel), List.mem_of_getElem? (i := 657) (by decide +kernel), List.mem_of_getElem? (i := 658) (by decide +kernel)⟩
theorem lw_p22 : lw_okq (⟨"GraphNamerModel", "rises", "(I)Z"⟩, 13) := ⟨⟨by decide +kernel, by decide +kernel⟩, List.mem_of_getElem? (i := 543) (by decide +kernel), List.mem_of_getElem? (i := 661) (by decide +kernel), List.mem_of_getElem? (i := 662) (by decide +kernel)⟩
theorem lw_p23 : lw_okq (⟨"GraphNamerModel", "code", "(I)I"⟩, 13) := ⟨⟨by decide +kernel, by decide +kernel⟩, List.mem_of_getElem? (i := 543) (by decide +kernel), List.mem_of_getElem? (i := 665) (by decide +kernel), List.mem_of_getElem? (i := 666) (by decide +kernel)⟩
theorem lw_p24 : lw_okq (⟨"GraphNamerModel", "next", "(I)Z"⟩, 13) := ⟨⟨by decide +kernel, by decide +kernel⟩, List.mem_of_getElem? (i := 543) (by decide +kernel), List.mem_of_getElem? (i := 669) (by decide +kernel), List.mem_of_getElem? (i := 670) (by decide +kernel)⟩
theorem lw_p25 : lw_okq (⟨"GraphNamerModel", "change", "(II)V"⟩, 13) := ⟨⟨by decide +kernel, by decide +kernel⟩, List.mem_of_getElem? (i := 543) (by decide +kernel), List.mem_of_getElem? (i := 673) (by decide +kernel), List.mem_of_getElem? (i := 674) (by decide +kernel)⟩
theorem lw_p26 : lw_okq (⟨"GraphNamerModel", "placeOf", "(I)I"⟩, 13) := ⟨⟨by decide +kernel, by decide +kernel⟩, List.mem_of_getElem? (i := 543) (by decide +kernel), List.mem_of_getElem? (i := 693) (by decide +kernel), List.mem_of_getElem? (i := 694) (by decide +kernel)⟩
theorem lw_p27 : lw_okq (⟨"GraphNamerModel", "count", "(IIII)I"⟩, 13) := ⟨⟨by decide +kernel, by decide +kernel⟩, List.mem_of_getElem? (i := 543) (by decide +kernel), List.mem_of_getElem? (i := 701) (by decide +kernel), List.mem_of_getElem? (i := 702) (by decide +kernel)⟩
theorem lw_p28 : lw_okq (⟨"GraphNamerModel", "keeps", "(I)Z"⟩, 13) := ⟨⟨by decide +kernel, by decide +kernel⟩, List.mem_of_getElem? (i := 543) (by decide +kernel), List.mem_of_getElem? (i := 705) (by decide +kernel), List.mem_of_getElem? (i := 706) (by decide +kernel)⟩
theorem lw_p29 : lw_okq (⟨"GraphNamerModel", "lays", "(I)Z"⟩, 13) := ⟨⟨by decide +kernel, by decide +kernel⟩, List.mem_of_getElem? (i := 543) (by decide +kernel), List.mem_of_getElem? (i := 709) (by decide +kernel), List.mem_of_getElem? (i := 710) (by decide +kernel)⟩
theorem lw_p30 : lw_okq (⟨"GraphNamerModel", "strange", "(II)Z"⟩, 13) := ⟨⟨by decide +kernel, by decide +kernel⟩, List.mem_of_getElem? (i := 543) (by decide +kernel), List.mem_of_getElem? (i := 717) (by decide +kernel), List.mem_of_getElem? (i := 718) (by decide +kernel)⟩
theorem lw_p31 : lw_okq (⟨"GraphNamerModel", "orbitOf", "(II)I"⟩, 13) := ⟨⟨by decide +kernel, by decide +kernel⟩, List.mem_of_getElem? (i := 543) (by decide +kernel), List.mem_of_getElem? (i := 725) (by decide +kernel), List.mem_of_getElem? (i := 726) (by decide +kernel)⟩
def lw_privs_2 : List (MethodName × Nat) := [(⟨"GraphNamerModel", "noVertex", "(II)Z"⟩, 13), (⟨"GraphNamerModel", "colourOf", "(II)I"⟩, 13), (⟨"GraphNamerModel", "isEdge", "(III)Z"⟩, 13), (⟨"GraphNamerModel", "edges", "(I)I"⟩, 13), (⟨"GraphNamerModel", "seek", "(I)V"⟩, 13), (⟨"GraphNamerModel", "begin", "()V"⟩, 13), (⟨"GraphNamerModel", "rises", "(I)Z"⟩, 13), (⟨"GraphNamerModel", "code", "(I)I"⟩, 13), (⟨"GraphNamerModel", "next", "(I)Z"⟩, 13), (⟨"GraphNamerModel", "change", "(II)V"⟩, 13), (⟨"GraphNamerModel", "placeOf", "(I)I"⟩, 13), (⟨"GraphNamerModel", "count", "(IIII)I"⟩, 13), (⟨"GraphNamerModel", "keeps", "(I)Z"⟩, 13), (⟨"GraphNamerModel", "lays", "(I)Z"⟩, 13), (⟨"GraphNamerModel", "strange", "(II)Z"⟩, 13), (⟨"GraphNamerModel", "orbitOf", "(II)I"⟩, 13)]
theorem lw_r2 : ∀ q ∈ lw_privs_2, lw_okq q := List.forall_mem_cons.mpr ⟨lw_p16, List.forall_mem_cons.mpr ⟨lw_p17, List.forall_mem_cons.mpr ⟨lw_p18, List.forall_mem_cons.mpr ⟨lw_p19, List.forall_mem_cons.mpr ⟨lw_p20, List.forall_mem_cons.mpr ⟨lw_p21, List.forall_mem_cons.mpr ⟨lw_p22, List.forall_mem_cons.mpr ⟨lw_p23, List.forall_mem_cons.mpr ⟨lw_p24, List.forall_mem_cons.mpr ⟨lw_p25, List.forall_mem_cons.mpr ⟨lw_p26, List.forall_mem_cons.mpr ⟨lw_p27, List.forall_mem_cons.mpr ⟨lw_p28, List.forall_mem_cons.mpr ⟨lw_p29, List.forall_mem_cons.mpr ⟨lw_p30, List.forall_mem_cons.mpr ⟨lw_p31, fun _ h => absurd h List.not_mem_nil⟩⟩⟩⟩⟩⟩⟩⟩⟩⟩⟩⟩⟩⟩⟩⟩
theorem lw_p32 : lw_okq (⟨"GraphNamerModel", "split", "(I)V"⟩, 13) := ⟨⟨by decide +kernel, by decide +kernel⟩, List.mem_of_getElem? (i := 543) (by decide +kernel), List.mem_of_getElem? (i := 737) (by decide +kernel), List.mem_of_getElem? (i := 738) (by decide +kernel)⟩
theorem lw_p33 : lw_okq (⟨"GraphNamerModel", "agree", "(III)Z"⟩, 13) := ⟨⟨by decide +kernel, by decide +kernel⟩, List.mem_of_getElem? (i := 543) (by decide +kernel), List.mem_of_getElem? (i := 741) (by decide +kernel), List.mem_of_getElem? (i := 742) (by decide +kernel)⟩
theorem lw_p34 : lw_okq (⟨"GraphNamerModel", "links", "(III)I"⟩, 13) := ⟨⟨by decide +kernel, by decide +kernel⟩, List.mem_of_getElem? (i := 543) (by decide +kernel), List.mem_of_getElem? (i := 745) (by decide +kernel), List.mem_of_getElem? (i := 746) (by decide +kernel)⟩
theorem lw_p35 : lw_okq (⟨"GraphNamerModel", "alike", "(II)Z"⟩, 13) := ⟨⟨by decide +kernel, by decide +kernel⟩, List.mem_of_getElem? (i := 543) (by decide +kernel), List.mem_of_getElem? (i := 757) (by decide +kernel), List.mem_of_getElem? (i := 758) (by decide +kernel)⟩
def lw_privs_3 : List (MethodName × Nat) := [(⟨"GraphNamerModel", "split", "(I)V"⟩, 13), (⟨"GraphNamerModel", "agree", "(III)Z"⟩, 13), (⟨"GraphNamerModel", "links", "(III)I"⟩, 13), (⟨"GraphNamerModel", "alike", "(II)Z"⟩, 13)]
theorem lw_r3 : ∀ q ∈ lw_privs_3, lw_okq q := List.forall_mem_cons.mpr ⟨lw_p32, List.forall_mem_cons.mpr ⟨lw_p33, List.forall_mem_cons.mpr ⟨lw_p34, List.forall_mem_cons.mpr ⟨lw_p35, fun _ h => absurd h List.not_mem_nil⟩⟩⟩⟩
def lw_privs : List (MethodName × Nat) := lw_privs_1 ++ (lw_privs_2 ++ (lw_privs_3))
def lw_tbl : List Cond := k2_sels lw_privs ++ tables_1
theorem lw_privs_ok : ∀ q ∈ lw_privs, lw_okq q := by
  show ∀ q ∈ lw_privs_1 ++ (lw_privs_2 ++ (lw_privs_3)), lw_okq q
  exact List.forall_mem_append.mpr ⟨lw_r1, List.forall_mem_append.mpr ⟨lw_r2, lw_r3⟩⟩
end
section
/-! Classes, words, links, methods: by program, out of the claim. -/
def C_N : String := "GraphNamer"
def T_N : u_T := fun k => match k with
  | 0 => ("GraphNamer", "graphs", "[LGraphNamer$Graph;", true)
  | 1 => ("GraphNamer", "spare", "LGraphNamer$Graph;", true)
  | 2 => ("GraphNamer", "numbering", "LGraphNamer$Numbering;", true)
  | 3 => ("GraphNamer", "otherNumbering", "LGraphNamer$Numbering;", true)
  | 4 => ("GraphNamer", "laying", "LGraphNamer$Laying;", true)
  | _ => ("GraphNamer", "parting", "LGraphNamer$Parting;", true)
def ty_N : Nat → FieldType := fun k => match k with
  | 0 => .array (.object "GraphNamer$Graph")
  | 1 => .object "GraphNamer$Graph"
  | 2 => .object "GraphNamer$Numbering"
  | 3 => .object "GraphNamer$Numbering"
  | 4 => .object "GraphNamer$Laying"
  | _ => .object "GraphNamer$Parting"
def C_G : String := "GraphNamer$Graph"
def T_G : u_T := fun k => match k with
  | 0 => ("GraphNamer$Graph", "count", "I", false)
  | 1 => ("GraphNamer$Graph", "colours", "[I", true)
  | _ => ("GraphNamer$Graph", "neighbours", "[I", true)
def ty_G : Nat → FieldType := fun k => match k with
  | 0 => .int
  | 1 => .array .int
  | _ => .array .int
def C_U : String := "GraphNamer$Numbering"
def T_U : u_T := fun k => match k with
  | 0 => ("GraphNamer$Numbering", "least", "I", false)
  | 1 => ("GraphNamer$Numbering", "vertices", "[I", true)
  | 2 => ("GraphNamer$Numbering", "places", "[I", true)
  | _ => ("GraphNamer$Numbering", "trial", "[I", true)
def ty_U : Nat → FieldType := fun k => match k with
  | 0 => .int
  | 1 => .array .int
  | 2 => .array .int
  | _ => .array .int
def C_Y : String := "GraphNamer$Laying"
def T_Y : u_T := fun k => match k with
  | _ => ("GraphNamer$Laying", "onto", "[I", true)
def ty_Y : Nat → FieldType := fun k => match k with
  | _ => .array .int
def C_P : String := "GraphNamer$Parting"
def T_P : u_T := fun k => match k with
  | 0 => ("GraphNamer$Parting", "cellOf", "[I", false)
  | _ => ("GraphNamer$Parting", "finer", "[I", false)
def ty_P : Nat → FieldType := fun k => match k with
  | 0 => .array .int
  | _ => .array .int
def C_R : String := "GraphNamerModel"
def T_R : u_T := fun k => match k with
  | 0 => ("GraphNamerModel", "thrown", "I", false)
  | 1 => ("GraphNamerModel", "size", "[I", true)
  | 2 => ("GraphNamerModel", "colour", "[I", true)
  | 3 => ("GraphNamerModel", "edge", "[Z", true)
  | 4 => ("GraphNamerModel", "row", "[I", true)
  | 5 => ("GraphNamerModel", "first", "[I", true)
  | 6 => ("GraphNamerModel", "least", "I", false)
  | 7 => ("GraphNamerModel", "other", "[I", true)
  | 8 => ("GraphNamerModel", "otherLeast", "I", false)
  | 9 => ("GraphNamerModel", "cell", "[I", true)
  | 10 => ("GraphNamerModel", "finer", "[I", true)
  | 11 => ("GraphNamerModel", "spareColour", "[I", true)
  | _ => ("GraphNamerModel", "spareEdge", "[Z", true)
def ty_R : Nat → FieldType := fun k => match k with
  | 0 => .int
  | 1 => .array .int
  | 2 => .array .int
  | 3 => .array .boolean
  | 4 => .array .int
  | 5 => .array .int
  | 6 => .int
  | 7 => .array .int
  | 8 => .int
  | 9 => .array .int
  | 10 => .array .int
  | 11 => .array .int
  | _ => .array .boolean
abbrev tm_cl : List vw_C := [(C_N, T_N, 6), (C_G, T_G, 3), (C_U, T_U, 4), (C_Y, T_Y, 1), (C_P, T_P, 2), (C_R, T_R, 13)]
theorem tm_cl_len : tm_cl.length ≤ 1000 := by decide
theorem tp_N : ∀ k, k < 6 → parseFieldDescriptor (T_N k).2.2.1 = some (ty_N k) := by decide +kernel
theorem tn_N : ∀ a, a < 6 → ∀ b, b < 6 → a ≠ b → (T_N a).2.1 ≠ (T_N b).2.1 := by decide +kernel
theorem tp_G : ∀ k, k < 3 → parseFieldDescriptor (T_G k).2.2.1 = some (ty_G k) := by decide +kernel
theorem tn_G : ∀ a, a < 3 → ∀ b, b < 3 → a ≠ b → (T_G a).2.1 ≠ (T_G b).2.1 := by decide +kernel
theorem tp_U : ∀ k, k < 4 → parseFieldDescriptor (T_U k).2.2.1 = some (ty_U k) := by decide +kernel
theorem tn_U : ∀ a, a < 4 → ∀ b, b < 4 → a ≠ b → (T_U a).2.1 ≠ (T_U b).2.1 := by decide +kernel
theorem tp_Y : ∀ k, k < 1 → parseFieldDescriptor (T_Y k).2.2.1 = some (ty_Y k) := by decide +kernel
theorem tn_Y : ∀ a, a < 1 → ∀ b, b < 1 → a ≠ b → (T_Y a).2.1 ≠ (T_Y b).2.1 := by decide +kernel
theorem tp_P : ∀ k, k < 2 → parseFieldDescriptor (T_P k).2.2.1 = some (ty_P k) := by decide +kernel
theorem tn_P : ∀ a, a < 2 → ∀ b, b < 2 → a ≠ b → (T_P a).2.1 ≠ (T_P b).2.1 := by decide +kernel
theorem tp_R : ∀ k, k < 13 → parseFieldDescriptor (T_R k).2.2.1 = some (ty_R k) := by decide +kernel
theorem tn_R : ∀ a, a < 13 → ∀ b, b < 13 → a ≠ b → (T_R a).2.1 ≠ (T_R b).2.1 := by decide +kernel
def tm_K : Nat := 39
def tm_GC : String := "GraphNamer$Graph"
def tm_ex : Nat → String
  | 0 => "java/util/NoSuchElementException"
  | 1 => "java/lang/IllegalArgumentException"
  | _ => "java/lang/IllegalStateException"
/-- words that hold on where the tables are warmer -/
def tm_kp (w : Cond) : Bool := match w with
  | .arrayClass _ => true
  | w => w.onTables && (w.keepsH || w.keepsFace)
def tm_ws : List Cond := lw_tbl.filter tm_kp
theorem tm_ws_kp : ∀ w ∈ tm_ws, tm_kp w = true := fun w hw => (List.mem_filter.mp hw).2
def tm_sts : List (String × String × String) := [("java/lang/Throwable", "UNASSIGNED_STACK", "[Ljava/lang/StackTraceElement;"), ("java/lang/Throwable", "SUPPRESSED_SENTINEL", "Ljava/util/List;")]
def tm_strs : List (String × Nat × String) := [("GraphNamer", 156, "no such graph"), ("GraphNamer", 168, "the colour is not 0 .. 3"), ("GraphNamer", 58, "the graph has all the vertices it can have"), ("GraphNamer", 164, "no such vertex"), ("GraphNamer", 161, "the vertices are not different"), ("GraphNamer", 83, "the edge is there"), ("GraphNamer", 93, "the edge isn't there"), ("GraphNamer", 166, "a vertex in the set isn't there")]
def tm_ncs : List (String × String) := [("java/lang/IllegalArgumentException", "java/util/NoSuchElementException"), ("java/lang/IllegalStateException", "java/util/NoSuchElementException"), ("java/lang/IllegalStateException", "java/lang/IllegalArgumentException")]
theorem tw_0 : (Jvm.Cond.selects "GraphNamer" ({ cls := "GraphNamer", name := "graphOf", desc := "(I)LGraphNamer$Graph;" } : Jvm.MethodName) ({ cls := "GraphNamer", name := "graphOf", desc := "(I)LGraphNamer$Graph;" } : Jvm.MethodName)) ∈ tm_ws := List.mem_filter.mpr ⟨List.mem_of_getElem? (i := 0) (by decide +kernel), by decide +kernel⟩
theorem tw_2 : (Jvm.Cond.selects "GraphNamer" ({ cls := "GraphNamer", name := "graphWith", desc := "(II)LGraphNamer$Graph;" } : Jvm.MethodName) ({ cls := "GraphNamer", name := "graphWith", desc := "(II)LGraphNamer$Graph;" } : Jvm.MethodName)) ∈ tm_ws := List.mem_filter.mpr ⟨List.mem_of_getElem? (i := 2) (by decide +kernel), by decide +kernel⟩
theorem tw_3 : (Jvm.Cond.selects "GraphNamer" ({ cls := "GraphNamer", name := "graphWithPair", desc := "(III)LGraphNamer$Graph;" } : Jvm.MethodName) ({ cls := "GraphNamer", name := "graphWithPair", desc := "(III)LGraphNamer$Graph;" } : Jvm.MethodName)) ∈ tm_ws := List.mem_filter.mpr ⟨List.mem_of_getElem? (i := 3) (by decide +kernel), by decide +kernel⟩
theorem tw_4 : (Jvm.Cond.selects "GraphNamer$Numbering" ({ cls := "GraphNamer$Numbering", name := "fill", desc := "(LGraphNamer$Graph;III)V" } : Jvm.MethodName) ({ cls := "GraphNamer$Numbering", name := "fill", desc := "(LGraphNamer$Graph;III)V" } : Jvm.MethodName)) ∈ tm_ws := List.mem_filter.mpr ⟨List.mem_of_getElem? (i := 4) (by decide +kernel), by decide +kernel⟩
theorem tw_5 : (Jvm.Cond.selects "GraphNamer$Numbering" ({ cls := "GraphNamer$Numbering", name := "keepIfLess", desc := "(II)V" } : Jvm.MethodName) ({ cls := "GraphNamer$Numbering", name := "keepIfLess", desc := "(II)V" } : Jvm.MethodName)) ∈ tm_ws := List.mem_filter.mpr ⟨List.mem_of_getElem? (i := 5) (by decide +kernel), by decide +kernel⟩
theorem tw_6 : (Jvm.Cond.selects "GraphNamer$Numbering" ({ cls := "GraphNamer$Numbering", name := "leastBits", desc := "(LGraphNamer$Graph;II)I" } : Jvm.MethodName) ({ cls := "GraphNamer$Numbering", name := "leastBits", desc := "(LGraphNamer$Graph;II)I" } : Jvm.MethodName)) ∈ tm_ws := List.mem_filter.mpr ⟨List.mem_of_getElem? (i := 6) (by decide +kernel), by decide +kernel⟩
theorem tw_7 : (Jvm.Cond.selects "GraphNamer$Numbering" ({ cls := "GraphNamer$Numbering", name := "bitsAt", desc := "(LGraphNamer$Graph;II)I" } : Jvm.MethodName) ({ cls := "GraphNamer$Numbering", name := "bitsAt", desc := "(LGraphNamer$Graph;II)I" } : Jvm.MethodName)) ∈ tm_ws := List.mem_filter.mpr ⟨List.mem_of_getElem? (i := 7) (by decide +kernel), by decide +kernel⟩
theorem tw_8 : (Jvm.Cond.selects "GraphNamer$Laying" ({ cls := "GraphNamer$Laying", name := "fits", desc := "(LGraphNamer$Graph;III)Z" } : Jvm.MethodName) ({ cls := "GraphNamer$Laying", name := "fits", desc := "(LGraphNamer$Graph;III)Z" } : Jvm.MethodName)) ∈ tm_ws := List.mem_filter.mpr ⟨List.mem_of_getElem? (i := 8) (by decide +kernel), by decide +kernel⟩
theorem tw_9 : (Jvm.Cond.selects "GraphNamer$Laying" ({ cls := "GraphNamer$Laying", name := "canGoOn", desc := "(LGraphNamer$Graph;III)Z" } : Jvm.MethodName) ({ cls := "GraphNamer$Laying", name := "canGoOn", desc := "(LGraphNamer$Graph;III)Z" } : Jvm.MethodName)) ∈ tm_ws := List.mem_filter.mpr ⟨List.mem_of_getElem? (i := 9) (by decide +kernel), by decide +kernel⟩
theorem tw_10 : (Jvm.Cond.selects "GraphNamer$Parting" ({ cls := "GraphNamer$Parting", name := "refine", desc := "(LGraphNamer$Graph;)Z" } : Jvm.MethodName) ({ cls := "GraphNamer$Parting", name := "refine", desc := "(LGraphNamer$Graph;)Z" } : Jvm.MethodName)) ∈ tm_ws := List.mem_filter.mpr ⟨List.mem_of_getElem? (i := 10) (by decide +kernel), by decide +kernel⟩
theorem tw_11 : (Jvm.Cond.selects "GraphNamer$Parting" ({ cls := "GraphNamer$Parting", name := "agreeing", desc := "(LGraphNamer$Graph;I)I" } : Jvm.MethodName) ({ cls := "GraphNamer$Parting", name := "agreeing", desc := "(LGraphNamer$Graph;I)I" } : Jvm.MethodName)) ∈ tm_ws := List.mem_filter.mpr ⟨List.mem_of_getElem? (i := 11) (by decide +kernel), by decide +kernel⟩
theorem tw_12 : (Jvm.Cond.selects "GraphNamer$Parting" ({ cls := "GraphNamer$Parting", name := "agree", desc := "(LGraphNamer$Graph;II)Z" } : Jvm.MethodName) ({ cls := "GraphNamer$Parting", name := "agree", desc := "(LGraphNamer$Graph;II)Z" } : Jvm.MethodName)) ∈ tm_ws := List.mem_filter.mpr ⟨List.mem_of_getElem? (i := 12) (by decide +kernel), by decide +kernel⟩
theorem tw_13 : (Jvm.Cond.selects "GraphNamer" ({ cls := "GraphNamer", name := "alike", desc := "(LGraphNamer$Graph;LGraphNamer$Graph;)Z" } : Jvm.MethodName) ({ cls := "GraphNamer", name := "alike", desc := "(LGraphNamer$Graph;LGraphNamer$Graph;)Z" } : Jvm.MethodName)) ∈ tm_ws := List.mem_filter.mpr ⟨List.mem_of_getElem? (i := 13) (by decide +kernel), by decide +kernel⟩
theorem tw_14 : (Jvm.Cond.selects "GraphNamerModel" ({ cls := "GraphNamerModel", name := "refused", desc := "(I)Z" } : Jvm.MethodName) ({ cls := "GraphNamerModel", name := "refused", desc := "(I)Z" } : Jvm.MethodName)) ∈ tm_ws := List.mem_filter.mpr ⟨List.mem_of_getElem? (i := 14) (by decide +kernel), by decide +kernel⟩
theorem tw_15 : (Jvm.Cond.selects "GraphNamerModel" ({ cls := "GraphNamerModel", name := "set", desc := "(IIIZ)V" } : Jvm.MethodName) ({ cls := "GraphNamerModel", name := "set", desc := "(IIIZ)V" } : Jvm.MethodName)) ∈ tm_ws := List.mem_filter.mpr ⟨List.mem_of_getElem? (i := 15) (by decide +kernel), by decide +kernel⟩
theorem tw_16 : (Jvm.Cond.selects "GraphNamerModel" ({ cls := "GraphNamerModel", name := "noVertex", desc := "(II)Z" } : Jvm.MethodName) ({ cls := "GraphNamerModel", name := "noVertex", desc := "(II)Z" } : Jvm.MethodName)) ∈ tm_ws := List.mem_filter.mpr ⟨List.mem_of_getElem? (i := 16) (by decide +kernel), by decide +kernel⟩
theorem tw_17 : (Jvm.Cond.selects "GraphNamerModel" ({ cls := "GraphNamerModel", name := "colourOf", desc := "(II)I" } : Jvm.MethodName) ({ cls := "GraphNamerModel", name := "colourOf", desc := "(II)I" } : Jvm.MethodName)) ∈ tm_ws := List.mem_filter.mpr ⟨List.mem_of_getElem? (i := 17) (by decide +kernel), by decide +kernel⟩
theorem tw_18 : (Jvm.Cond.selects "GraphNamerModel" ({ cls := "GraphNamerModel", name := "isEdge", desc := "(III)Z" } : Jvm.MethodName) ({ cls := "GraphNamerModel", name := "isEdge", desc := "(III)Z" } : Jvm.MethodName)) ∈ tm_ws := List.mem_filter.mpr ⟨List.mem_of_getElem? (i := 18) (by decide +kernel), by decide +kernel⟩
theorem tw_19 : (Jvm.Cond.selects "GraphNamerModel" ({ cls := "GraphNamerModel", name := "edges", desc := "(I)I" } : Jvm.MethodName) ({ cls := "GraphNamerModel", name := "edges", desc := "(I)I" } : Jvm.MethodName)) ∈ tm_ws := List.mem_filter.mpr ⟨List.mem_of_getElem? (i := 19) (by decide +kernel), by decide +kernel⟩
theorem tw_20 : (Jvm.Cond.selects "GraphNamerModel" ({ cls := "GraphNamerModel", name := "seek", desc := "(I)V" } : Jvm.MethodName) ({ cls := "GraphNamerModel", name := "seek", desc := "(I)V" } : Jvm.MethodName)) ∈ tm_ws := List.mem_filter.mpr ⟨List.mem_of_getElem? (i := 20) (by decide +kernel), by decide +kernel⟩
theorem tw_21 : (Jvm.Cond.selects "GraphNamerModel" ({ cls := "GraphNamerModel", name := "begin", desc := "()V" } : Jvm.MethodName) ({ cls := "GraphNamerModel", name := "begin", desc := "()V" } : Jvm.MethodName)) ∈ tm_ws := List.mem_filter.mpr ⟨List.mem_of_getElem? (i := 21) (by decide +kernel), by decide +kernel⟩
theorem tw_22 : (Jvm.Cond.selects "GraphNamerModel" ({ cls := "GraphNamerModel", name := "rises", desc := "(I)Z" } : Jvm.MethodName) ({ cls := "GraphNamerModel", name := "rises", desc := "(I)Z" } : Jvm.MethodName)) ∈ tm_ws := List.mem_filter.mpr ⟨List.mem_of_getElem? (i := 22) (by decide +kernel), by decide +kernel⟩
theorem tw_23 : (Jvm.Cond.selects "GraphNamerModel" ({ cls := "GraphNamerModel", name := "code", desc := "(I)I" } : Jvm.MethodName) ({ cls := "GraphNamerModel", name := "code", desc := "(I)I" } : Jvm.MethodName)) ∈ tm_ws := List.mem_filter.mpr ⟨List.mem_of_getElem? (i := 23) (by decide +kernel), by decide +kernel⟩
theorem tw_24 : (Jvm.Cond.selects "GraphNamerModel" ({ cls := "GraphNamerModel", name := "next", desc := "(I)Z" } : Jvm.MethodName) ({ cls := "GraphNamerModel", name := "next", desc := "(I)Z" } : Jvm.MethodName)) ∈ tm_ws := List.mem_filter.mpr ⟨List.mem_of_getElem? (i := 24) (by decide +kernel), by decide +kernel⟩
theorem tw_25 : (Jvm.Cond.selects "GraphNamerModel" ({ cls := "GraphNamerModel", name := "change", desc := "(II)V" } : Jvm.MethodName) ({ cls := "GraphNamerModel", name := "change", desc := "(II)V" } : Jvm.MethodName)) ∈ tm_ws := List.mem_filter.mpr ⟨List.mem_of_getElem? (i := 25) (by decide +kernel), by decide +kernel⟩
theorem tw_26 : (Jvm.Cond.selects "GraphNamerModel" ({ cls := "GraphNamerModel", name := "placeOf", desc := "(I)I" } : Jvm.MethodName) ({ cls := "GraphNamerModel", name := "placeOf", desc := "(I)I" } : Jvm.MethodName)) ∈ tm_ws := List.mem_filter.mpr ⟨List.mem_of_getElem? (i := 26) (by decide +kernel), by decide +kernel⟩
theorem tw_27 : (Jvm.Cond.selects "GraphNamerModel" ({ cls := "GraphNamerModel", name := "count", desc := "(IIII)I" } : Jvm.MethodName) ({ cls := "GraphNamerModel", name := "count", desc := "(IIII)I" } : Jvm.MethodName)) ∈ tm_ws := List.mem_filter.mpr ⟨List.mem_of_getElem? (i := 27) (by decide +kernel), by decide +kernel⟩
theorem tw_28 : (Jvm.Cond.selects "GraphNamerModel" ({ cls := "GraphNamerModel", name := "keeps", desc := "(I)Z" } : Jvm.MethodName) ({ cls := "GraphNamerModel", name := "keeps", desc := "(I)Z" } : Jvm.MethodName)) ∈ tm_ws := List.mem_filter.mpr ⟨List.mem_of_getElem? (i := 28) (by decide +kernel), by decide +kernel⟩
theorem tw_29 : (Jvm.Cond.selects "GraphNamerModel" ({ cls := "GraphNamerModel", name := "lays", desc := "(I)Z" } : Jvm.MethodName) ({ cls := "GraphNamerModel", name := "lays", desc := "(I)Z" } : Jvm.MethodName)) ∈ tm_ws := List.mem_filter.mpr ⟨List.mem_of_getElem? (i := 29) (by decide +kernel), by decide +kernel⟩
theorem tw_30 : (Jvm.Cond.selects "GraphNamerModel" ({ cls := "GraphNamerModel", name := "strange", desc := "(II)Z" } : Jvm.MethodName) ({ cls := "GraphNamerModel", name := "strange", desc := "(II)Z" } : Jvm.MethodName)) ∈ tm_ws := List.mem_filter.mpr ⟨List.mem_of_getElem? (i := 30) (by decide +kernel), by decide +kernel⟩
theorem tw_31 : (Jvm.Cond.selects "GraphNamerModel" ({ cls := "GraphNamerModel", name := "orbitOf", desc := "(II)I" } : Jvm.MethodName) ({ cls := "GraphNamerModel", name := "orbitOf", desc := "(II)I" } : Jvm.MethodName)) ∈ tm_ws := List.mem_filter.mpr ⟨List.mem_of_getElem? (i := 31) (by decide +kernel), by decide +kernel⟩
theorem tw_32 : (Jvm.Cond.selects "GraphNamerModel" ({ cls := "GraphNamerModel", name := "split", desc := "(I)V" } : Jvm.MethodName) ({ cls := "GraphNamerModel", name := "split", desc := "(I)V" } : Jvm.MethodName)) ∈ tm_ws := List.mem_filter.mpr ⟨List.mem_of_getElem? (i := 32) (by decide +kernel), by decide +kernel⟩
theorem tw_33 : (Jvm.Cond.selects "GraphNamerModel" ({ cls := "GraphNamerModel", name := "agree", desc := "(III)Z" } : Jvm.MethodName) ({ cls := "GraphNamerModel", name := "agree", desc := "(III)Z" } : Jvm.MethodName)) ∈ tm_ws := List.mem_filter.mpr ⟨List.mem_of_getElem? (i := 33) (by decide +kernel), by decide +kernel⟩
theorem tw_34 : (Jvm.Cond.selects "GraphNamerModel" ({ cls := "GraphNamerModel", name := "links", desc := "(III)I" } : Jvm.MethodName) ({ cls := "GraphNamerModel", name := "links", desc := "(III)I" } : Jvm.MethodName)) ∈ tm_ws := List.mem_filter.mpr ⟨List.mem_of_getElem? (i := 34) (by decide +kernel), by decide +kernel⟩
theorem tw_35 : (Jvm.Cond.selects "GraphNamerModel" ({ cls := "GraphNamerModel", name := "alike", desc := "(II)Z" } : Jvm.MethodName) ({ cls := "GraphNamerModel", name := "alike", desc := "(II)Z" } : Jvm.MethodName)) ∈ tm_ws := List.mem_filter.mpr ⟨List.mem_of_getElem? (i := 35) (by decide +kernel), by decide +kernel⟩
theorem tw_36 : (Jvm.Cond.initialized "GraphNamerLaw") ∈ tm_ws := List.mem_filter.mpr ⟨List.mem_of_getElem? (i := 36) (by decide +kernel), by decide +kernel⟩
theorem tw_37 : (Jvm.Cond.initialized "GraphNamer") ∈ tm_ws := List.mem_filter.mpr ⟨List.mem_of_getElem? (i := 37) (by decide +kernel), by decide +kernel⟩
theorem tw_38 : (Jvm.Cond.initialized "GraphNamer$Graph") ∈ tm_ws := List.mem_filter.mpr ⟨List.mem_of_getElem? (i := 38) (by decide +kernel), by decide +kernel⟩
theorem tw_39 : (Jvm.Cond.initialized "GraphNamer$Numbering") ∈ tm_ws := List.mem_filter.mpr ⟨List.mem_of_getElem? (i := 39) (by decide +kernel), by decide +kernel⟩
theorem tw_40 : (Jvm.Cond.initialized "GraphNamer$Laying") ∈ tm_ws := List.mem_filter.mpr ⟨List.mem_of_getElem? (i := 40) (by decide +kernel), by decide +kernel⟩
theorem tw_41 : (Jvm.Cond.initialized "GraphNamer$Parting") ∈ tm_ws := List.mem_filter.mpr ⟨List.mem_of_getElem? (i := 41) (by decide +kernel), by decide +kernel⟩
theorem tw_42 : (Jvm.Cond.initialized "GraphNamerModel") ∈ tm_ws := List.mem_filter.mpr ⟨List.mem_of_getElem? (i := 42) (by decide +kernel), by decide +kernel⟩
theorem tw_49 : (Jvm.Cond.initialized "java/lang/Integer") ∈ tm_ws := List.mem_filter.mpr ⟨List.mem_of_getElem? (i := 49) (by decide +kernel), by decide +kernel⟩
theorem tw_51 : (Jvm.Cond.initialized "java/lang/Math") ∈ tm_ws := List.mem_filter.mpr ⟨List.mem_of_getElem? (i := 51) (by decide +kernel), by decide +kernel⟩
theorem tw_67 : (Jvm.Cond.fieldLink "GraphNamer$Graph" (9 : Nat) "GraphNamer$Graph" "count" "I") ∈ tm_ws := List.mem_filter.mpr ⟨List.mem_of_getElem? (i := 67) (by decide +kernel), by decide +kernel⟩
theorem tw_68 : (Jvm.Cond.fieldLink "GraphNamer$Parting" (18 : Nat) "GraphNamer$Graph" "count" "I") ∈ tm_ws := List.mem_filter.mpr ⟨List.mem_of_getElem? (i := 68) (by decide +kernel), by decide +kernel⟩
theorem tw_69 : (Jvm.Cond.fieldLink "GraphNamer" (52 : Nat) "GraphNamer$Graph" "count" "I") ∈ tm_ws := List.mem_filter.mpr ⟨List.mem_of_getElem? (i := 69) (by decide +kernel), by decide +kernel⟩
theorem tw_70 : (Jvm.Cond.fieldLink "GraphNamer$Laying" (15 : Nat) "GraphNamer$Graph" "count" "I") ∈ tm_ws := List.mem_filter.mpr ⟨List.mem_of_getElem? (i := 70) (by decide +kernel), by decide +kernel⟩
theorem tw_71 : (Jvm.Cond.fieldLink "GraphNamer$Numbering" (38 : Nat) "GraphNamer$Graph" "count" "I") ∈ tm_ws := List.mem_filter.mpr ⟨List.mem_of_getElem? (i := 71) (by decide +kernel), by decide +kernel⟩
theorem tw_72 : (Jvm.Cond.fieldLink "GraphNamer$Graph" (15 : Nat) "GraphNamer$Graph" "colours" "[I") ∈ tm_ws := List.mem_filter.mpr ⟨List.mem_of_getElem? (i := 72) (by decide +kernel), by decide +kernel⟩
theorem tw_73 : (Jvm.Cond.fieldLink "GraphNamer$Parting" (24 : Nat) "GraphNamer$Graph" "colours" "[I") ∈ tm_ws := List.mem_filter.mpr ⟨List.mem_of_getElem? (i := 73) (by decide +kernel), by decide +kernel⟩
theorem tw_74 : (Jvm.Cond.fieldLink "GraphNamer" (71 : Nat) "GraphNamer$Graph" "colours" "[I") ∈ tm_ws := List.mem_filter.mpr ⟨List.mem_of_getElem? (i := 74) (by decide +kernel), by decide +kernel⟩
theorem tw_75 : (Jvm.Cond.fieldLink "GraphNamer$Laying" (45 : Nat) "GraphNamer$Graph" "colours" "[I") ∈ tm_ws := List.mem_filter.mpr ⟨List.mem_of_getElem? (i := 75) (by decide +kernel), by decide +kernel⟩
theorem tw_76 : (Jvm.Cond.fieldLink "GraphNamer$Graph" (19 : Nat) "GraphNamer$Graph" "neighbours" "[I") ∈ tm_ws := List.mem_filter.mpr ⟨List.mem_of_getElem? (i := 76) (by decide +kernel), by decide +kernel⟩
theorem tw_77 : (Jvm.Cond.fieldLink "GraphNamer$Parting" (47 : Nat) "GraphNamer$Graph" "neighbours" "[I") ∈ tm_ws := List.mem_filter.mpr ⟨List.mem_of_getElem? (i := 77) (by decide +kernel), by decide +kernel⟩
theorem tw_78 : (Jvm.Cond.fieldLink "GraphNamer" (115 : Nat) "GraphNamer$Graph" "neighbours" "[I") ∈ tm_ws := List.mem_filter.mpr ⟨List.mem_of_getElem? (i := 78) (by decide +kernel), by decide +kernel⟩
theorem tw_79 : (Jvm.Cond.lays "GraphNamer$Graph" "GraphNamer$Graph" "count" "I") ∈ tm_ws := List.mem_filter.mpr ⟨List.mem_of_getElem? (i := 79) (by decide +kernel), by decide +kernel⟩
theorem tw_81 : (Jvm.Cond.laysFinal "GraphNamer$Graph" "GraphNamer$Graph" "colours" "[I") ∈ tm_ws := List.mem_filter.mpr ⟨List.mem_of_getElem? (i := 81) (by decide +kernel), by decide +kernel⟩
theorem tw_83 : (Jvm.Cond.laysFinal "GraphNamer$Graph" "GraphNamer$Graph" "neighbours" "[I") ∈ tm_ws := List.mem_filter.mpr ⟨List.mem_of_getElem? (i := 83) (by decide +kernel), by decide +kernel⟩
theorem tw_93 : (Jvm.Cond.fieldLink "GraphNamer$Numbering" (9 : Nat) "GraphNamer$Numbering" "least" "I") ∈ tm_ws := List.mem_filter.mpr ⟨List.mem_of_getElem? (i := 93) (by decide +kernel), by decide +kernel⟩
theorem tw_94 : (Jvm.Cond.fieldLink "GraphNamer" (118 : Nat) "GraphNamer$Numbering" "least" "I") ∈ tm_ws := List.mem_filter.mpr ⟨List.mem_of_getElem? (i := 94) (by decide +kernel), by decide +kernel⟩
theorem tw_95 : (Jvm.Cond.fieldLink "GraphNamer$Numbering" (15 : Nat) "GraphNamer$Numbering" "vertices" "[I") ∈ tm_ws := List.mem_filter.mpr ⟨List.mem_of_getElem? (i := 95) (by decide +kernel), by decide +kernel⟩
theorem tw_96 : (Jvm.Cond.fieldLink "GraphNamer" (105 : Nat) "GraphNamer$Numbering" "vertices" "[I") ∈ tm_ws := List.mem_filter.mpr ⟨List.mem_of_getElem? (i := 96) (by decide +kernel), by decide +kernel⟩
theorem tw_97 : (Jvm.Cond.fieldLink "GraphNamer$Numbering" (19 : Nat) "GraphNamer$Numbering" "places" "[I") ∈ tm_ws := List.mem_filter.mpr ⟨List.mem_of_getElem? (i := 97) (by decide +kernel), by decide +kernel⟩
theorem tw_98 : (Jvm.Cond.fieldLink "GraphNamer" (112 : Nat) "GraphNamer$Numbering" "places" "[I") ∈ tm_ws := List.mem_filter.mpr ⟨List.mem_of_getElem? (i := 98) (by decide +kernel), by decide +kernel⟩
theorem tw_99 : (Jvm.Cond.fieldLink "GraphNamer$Numbering" (22 : Nat) "GraphNamer$Numbering" "trial" "[I") ∈ tm_ws := List.mem_filter.mpr ⟨List.mem_of_getElem? (i := 99) (by decide +kernel), by decide +kernel⟩
theorem tw_100 : (Jvm.Cond.lays "GraphNamer$Numbering" "GraphNamer$Numbering" "least" "I") ∈ tm_ws := List.mem_filter.mpr ⟨List.mem_of_getElem? (i := 100) (by decide +kernel), by decide +kernel⟩
theorem tw_102 : (Jvm.Cond.laysFinal "GraphNamer$Numbering" "GraphNamer$Numbering" "vertices" "[I") ∈ tm_ws := List.mem_filter.mpr ⟨List.mem_of_getElem? (i := 102) (by decide +kernel), by decide +kernel⟩
theorem tw_104 : (Jvm.Cond.laysFinal "GraphNamer$Numbering" "GraphNamer$Numbering" "places" "[I") ∈ tm_ws := List.mem_filter.mpr ⟨List.mem_of_getElem? (i := 104) (by decide +kernel), by decide +kernel⟩
theorem tw_106 : (Jvm.Cond.laysFinal "GraphNamer$Numbering" "GraphNamer$Numbering" "trial" "[I") ∈ tm_ws := List.mem_filter.mpr ⟨List.mem_of_getElem? (i := 106) (by decide +kernel), by decide +kernel⟩
theorem tw_115 : (Jvm.Cond.fieldLink "GraphNamer$Laying" (9 : Nat) "GraphNamer$Laying" "onto" "[I") ∈ tm_ws := List.mem_filter.mpr ⟨List.mem_of_getElem? (i := 115) (by decide +kernel), by decide +kernel⟩
theorem tw_116 : (Jvm.Cond.laysFinal "GraphNamer$Laying" "GraphNamer$Laying" "onto" "[I") ∈ tm_ws := List.mem_filter.mpr ⟨List.mem_of_getElem? (i := 116) (by decide +kernel), by decide +kernel⟩
theorem tw_125 : (Jvm.Cond.fieldLink "GraphNamer$Parting" (9 : Nat) "GraphNamer$Parting" "cellOf" "[I") ∈ tm_ws := List.mem_filter.mpr ⟨List.mem_of_getElem? (i := 125) (by decide +kernel), by decide +kernel⟩
theorem tw_126 : (Jvm.Cond.fieldLink "GraphNamer" (137 : Nat) "GraphNamer$Parting" "cellOf" "[I") ∈ tm_ws := List.mem_filter.mpr ⟨List.mem_of_getElem? (i := 126) (by decide +kernel), by decide +kernel⟩
theorem tw_127 : (Jvm.Cond.fieldLink "GraphNamer$Parting" (15 : Nat) "GraphNamer$Parting" "finer" "[I") ∈ tm_ws := List.mem_filter.mpr ⟨List.mem_of_getElem? (i := 127) (by decide +kernel), by decide +kernel⟩
theorem tw_128 : (Jvm.Cond.lays "GraphNamer$Parting" "GraphNamer$Parting" "cellOf" "[I") ∈ tm_ws := List.mem_filter.mpr ⟨List.mem_of_getElem? (i := 128) (by decide +kernel), by decide +kernel⟩
theorem tw_130 : (Jvm.Cond.lays "GraphNamer$Parting" "GraphNamer$Parting" "finer" "[I") ∈ tm_ws := List.mem_filter.mpr ⟨List.mem_of_getElem? (i := 130) (by decide +kernel), by decide +kernel⟩
theorem tw_133 : (Jvm.Cond.fieldLink "GraphNamer" (11 : Nat) "GraphNamer" "graphs" "[LGraphNamer$Graph;") ∈ tm_ws := List.mem_filter.mpr ⟨List.mem_of_getElem? (i := 133) (by decide +kernel), by decide +kernel⟩
theorem tw_134 : (Jvm.Cond.fieldLink "GraphNamer" (16 : Nat) "GraphNamer" "spare" "LGraphNamer$Graph;") ∈ tm_ws := List.mem_filter.mpr ⟨List.mem_of_getElem? (i := 134) (by decide +kernel), by decide +kernel⟩
theorem tw_135 : (Jvm.Cond.fieldLink "GraphNamer" (23 : Nat) "GraphNamer" "numbering" "LGraphNamer$Numbering;") ∈ tm_ws := List.mem_filter.mpr ⟨List.mem_of_getElem? (i := 135) (by decide +kernel), by decide +kernel⟩
theorem tw_136 : (Jvm.Cond.fieldLink "GraphNamer" (27 : Nat) "GraphNamer" "otherNumbering" "LGraphNamer$Numbering;") ∈ tm_ws := List.mem_filter.mpr ⟨List.mem_of_getElem? (i := 136) (by decide +kernel), by decide +kernel⟩
theorem tw_137 : (Jvm.Cond.fieldLink "GraphNamer" (33 : Nat) "GraphNamer" "laying" "LGraphNamer$Laying;") ∈ tm_ws := List.mem_filter.mpr ⟨List.mem_of_getElem? (i := 137) (by decide +kernel), by decide +kernel⟩
theorem tw_138 : (Jvm.Cond.fieldLink "GraphNamer" (40 : Nat) "GraphNamer" "parting" "LGraphNamer$Parting;") ∈ tm_ws := List.mem_filter.mpr ⟨List.mem_of_getElem? (i := 138) (by decide +kernel), by decide +kernel⟩
theorem tw_139 : (Jvm.Cond.laysFinal "GraphNamer" "GraphNamer" "graphs" "[LGraphNamer$Graph;") ∈ tm_ws := List.mem_filter.mpr ⟨List.mem_of_getElem? (i := 139) (by decide +kernel), by decide +kernel⟩
theorem tw_141 : (Jvm.Cond.laysFinal "GraphNamer" "GraphNamer" "spare" "LGraphNamer$Graph;") ∈ tm_ws := List.mem_filter.mpr ⟨List.mem_of_getElem? (i := 141) (by decide +kernel), by decide +kernel⟩
theorem tw_143 : (Jvm.Cond.laysFinal "GraphNamer" "GraphNamer" "numbering" "LGraphNamer$Numbering;") ∈ tm_ws := List.mem_filter.mpr ⟨List.mem_of_getElem? (i := 143) (by decide +kernel), by decide +kernel⟩
theorem tw_145 : (Jvm.Cond.laysFinal "GraphNamer" "GraphNamer" "otherNumbering" "LGraphNamer$Numbering;") ∈ tm_ws := List.mem_filter.mpr ⟨List.mem_of_getElem? (i := 145) (by decide +kernel), by decide +kernel⟩
theorem tw_147 : (Jvm.Cond.laysFinal "GraphNamer" "GraphNamer" "laying" "LGraphNamer$Laying;") ∈ tm_ws := List.mem_filter.mpr ⟨List.mem_of_getElem? (i := 147) (by decide +kernel), by decide +kernel⟩
theorem tw_149 : (Jvm.Cond.laysFinal "GraphNamer" "GraphNamer" "parting" "LGraphNamer$Parting;") ∈ tm_ws := List.mem_filter.mpr ⟨List.mem_of_getElem? (i := 149) (by decide +kernel), by decide +kernel⟩
theorem tw_152 : (Jvm.Cond.methodLink "GraphNamerLaw" (87 : Nat) ({ cls := "GraphNamerLaw", name := "vertex", desc := "(LGraphNamer;II[J)I" } : Jvm.MethodName)) ∈ tm_ws := List.mem_filter.mpr ⟨List.mem_of_getElem? (i := 152) (by decide +kernel), by decide +kernel⟩
theorem tw_153 : (Jvm.Cond.static ({ cls := "GraphNamerLaw", name := "vertex", desc := "(LGraphNamer;II[J)I" } : Jvm.MethodName)) ∈ tm_ws := List.mem_filter.mpr ⟨List.mem_of_getElem? (i := 153) (by decide +kernel), by decide +kernel⟩
theorem tw_154 : (Jvm.Cond.codeWith ({ cls := "GraphNamerLaw", name := "vertex", desc := "(LGraphNamer;II[J)I" } : Jvm.MethodName) method_3_code (5 : Nat) (Option.some Jvm.ClassFile.FieldType.int) [((0 : Nat), (10 : Nat), (13 : Nat), (13 : Nat)), ((0 : Nat), (10 : Nat), (17 : Nat), (15 : Nat)), ((0 : Nat), (10 : Nat), (21 : Nat), (17 : Nat))]) ∈ tm_ws := List.mem_filter.mpr ⟨List.mem_of_getElem? (i := 154) (by decide +kernel), by decide +kernel⟩
theorem tw_158 : (Jvm.Cond.methodLink "GraphNamerLaw" (7 : Nat) ({ cls := "GraphNamer", name := "vertex", desc := "(II)I" } : Jvm.MethodName)) ∈ tm_ws := List.mem_filter.mpr ⟨List.mem_of_getElem? (i := 158) (by decide +kernel), by decide +kernel⟩
theorem tw_159 : (Jvm.Cond.instanceMethod ({ cls := "GraphNamer", name := "vertex", desc := "(II)I" } : Jvm.MethodName)) ∈ tm_ws := List.mem_filter.mpr ⟨List.mem_of_getElem? (i := 159) (by decide +kernel), by decide +kernel⟩
theorem tw_160 : (Jvm.Cond.selects "GraphNamer" ({ cls := "GraphNamer", name := "vertex", desc := "(II)I" } : Jvm.MethodName) ({ cls := "GraphNamer", name := "vertex", desc := "(II)I" } : Jvm.MethodName)) ∈ tm_ws := List.mem_filter.mpr ⟨List.mem_of_getElem? (i := 160) (by decide +kernel), by decide +kernel⟩
theorem tw_161 : (Jvm.Cond.code ({ cls := "GraphNamer", name := "vertex", desc := "(II)I" } : Jvm.MethodName) prog_1_method_2_code (4 : Nat) (Option.some Jvm.ClassFile.FieldType.int)) ∈ tm_ws := List.mem_filter.mpr ⟨List.mem_of_getElem? (i := 161) (by decide +kernel), by decide +kernel⟩
theorem tw_162 : (Jvm.Cond.methodLink "GraphNamer" (44 : Nat) ({ cls := "GraphNamer", name := "graphOf", desc := "(I)LGraphNamer$Graph;" } : Jvm.MethodName)) ∈ tm_ws := List.mem_filter.mpr ⟨List.mem_of_getElem? (i := 162) (by decide +kernel), by decide +kernel⟩
theorem tw_164 : (Jvm.Cond.instanceMethod ({ cls := "GraphNamer", name := "graphOf", desc := "(I)LGraphNamer$Graph;" } : Jvm.MethodName)) ∈ tm_ws := List.mem_filter.mpr ⟨List.mem_of_getElem? (i := 164) (by decide +kernel), by decide +kernel⟩
theorem tw_165 : (Jvm.Cond.code ({ cls := "GraphNamer", name := "graphOf", desc := "(I)LGraphNamer$Graph;" } : Jvm.MethodName) prog_1_method_23_code (2 : Nat) (Option.some (Jvm.ClassFile.FieldType.object "GraphNamer$Graph"))) ∈ tm_ws := List.mem_filter.mpr ⟨List.mem_of_getElem? (i := 165) (by decide +kernel), by decide +kernel⟩
theorem tw_234 : (Jvm.Cond.methodLink "GraphNamer" (48 : Nat) ({ cls := "GraphNamer", name := "needColour", desc := "(I)V" } : Jvm.MethodName)) ∈ tm_ws := List.mem_filter.mpr ⟨List.mem_of_getElem? (i := 234) (by decide +kernel), by decide +kernel⟩
theorem tw_235 : (Jvm.Cond.static ({ cls := "GraphNamer", name := "needColour", desc := "(I)V" } : Jvm.MethodName)) ∈ tm_ws := List.mem_filter.mpr ⟨List.mem_of_getElem? (i := 235) (by decide +kernel), by decide +kernel⟩
theorem tw_236 : (Jvm.Cond.code ({ cls := "GraphNamer", name := "needColour", desc := "(I)V" } : Jvm.MethodName) prog_1_method_28_code (1 : Nat) (Option.none : Option Jvm.ClassFile.FieldType)) ∈ tm_ws := List.mem_filter.mpr ⟨List.mem_of_getElem? (i := 236) (by decide +kernel), by decide +kernel⟩
theorem tw_269 : (Jvm.Cond.methodLink "GraphNamer" (63 : Nat) ({ cls := "GraphNamer$Graph", name := "addVertex", desc := "(I)I" } : Jvm.MethodName)) ∈ tm_ws := List.mem_filter.mpr ⟨List.mem_of_getElem? (i := 269) (by decide +kernel), by decide +kernel⟩
theorem tw_270 : (Jvm.Cond.instanceMethod ({ cls := "GraphNamer$Graph", name := "addVertex", desc := "(I)I" } : Jvm.MethodName)) ∈ tm_ws := List.mem_filter.mpr ⟨List.mem_of_getElem? (i := 270) (by decide +kernel), by decide +kernel⟩
theorem tw_271 : (Jvm.Cond.selects "GraphNamer$Graph" ({ cls := "GraphNamer$Graph", name := "addVertex", desc := "(I)I" } : Jvm.MethodName) ({ cls := "GraphNamer$Graph", name := "addVertex", desc := "(I)I" } : Jvm.MethodName)) ∈ tm_ws := List.mem_filter.mpr ⟨List.mem_of_getElem? (i := 271) (by decide +kernel), by decide +kernel⟩
theorem tw_272 : (Jvm.Cond.code ({ cls := "GraphNamer$Graph", name := "addVertex", desc := "(I)I" } : Jvm.MethodName) prog_2_method_2_code (3 : Nat) (Option.some Jvm.ClassFile.FieldType.int)) ∈ tm_ws := List.mem_filter.mpr ⟨List.mem_of_getElem? (i := 272) (by decide +kernel), by decide +kernel⟩
theorem tw_273 : (Jvm.Cond.methodLink "GraphNamerLaw" (97 : Nat) ({ cls := "GraphNamerLaw", name := "paint", desc := "(LGraphNamer;III[J)I" } : Jvm.MethodName)) ∈ tm_ws := List.mem_filter.mpr ⟨List.mem_of_getElem? (i := 273) (by decide +kernel), by decide +kernel⟩
theorem tw_274 : (Jvm.Cond.static ({ cls := "GraphNamerLaw", name := "paint", desc := "(LGraphNamer;III[J)I" } : Jvm.MethodName)) ∈ tm_ws := List.mem_filter.mpr ⟨List.mem_of_getElem? (i := 274) (by decide +kernel), by decide +kernel⟩
theorem tw_275 : (Jvm.Cond.codeWith ({ cls := "GraphNamerLaw", name := "paint", desc := "(LGraphNamer;III[J)I" } : Jvm.MethodName) method_4_code (6 : Nat) (Option.some Jvm.ClassFile.FieldType.int) [((0 : Nat), (12 : Nat), (15 : Nat), (13 : Nat)), ((0 : Nat), (12 : Nat), (19 : Nat), (15 : Nat))]) ∈ tm_ws := List.mem_filter.mpr ⟨List.mem_of_getElem? (i := 275) (by decide +kernel), by decide +kernel⟩
theorem tw_276 : (Jvm.Cond.methodLink "GraphNamerLaw" (19 : Nat) ({ cls := "GraphNamer", name := "paint", desc := "(III)I" } : Jvm.MethodName)) ∈ tm_ws := List.mem_filter.mpr ⟨List.mem_of_getElem? (i := 276) (by decide +kernel), by decide +kernel⟩
theorem tw_277 : (Jvm.Cond.instanceMethod ({ cls := "GraphNamer", name := "paint", desc := "(III)I" } : Jvm.MethodName)) ∈ tm_ws := List.mem_filter.mpr ⟨List.mem_of_getElem? (i := 277) (by decide +kernel), by decide +kernel⟩
theorem tw_278 : (Jvm.Cond.selects "GraphNamer" ({ cls := "GraphNamer", name := "paint", desc := "(III)I" } : Jvm.MethodName) ({ cls := "GraphNamer", name := "paint", desc := "(III)I" } : Jvm.MethodName)) ∈ tm_ws := List.mem_filter.mpr ⟨List.mem_of_getElem? (i := 278) (by decide +kernel), by decide +kernel⟩
theorem tw_279 : (Jvm.Cond.code ({ cls := "GraphNamer", name := "paint", desc := "(III)I" } : Jvm.MethodName) prog_1_method_3_code (6 : Nat) (Option.some Jvm.ClassFile.FieldType.int)) ∈ tm_ws := List.mem_filter.mpr ⟨List.mem_of_getElem? (i := 279) (by decide +kernel), by decide +kernel⟩
theorem tw_280 : (Jvm.Cond.methodLink "GraphNamer" (67 : Nat) ({ cls := "GraphNamer", name := "graphWith", desc := "(II)LGraphNamer$Graph;" } : Jvm.MethodName)) ∈ tm_ws := List.mem_filter.mpr ⟨List.mem_of_getElem? (i := 280) (by decide +kernel), by decide +kernel⟩
theorem tw_282 : (Jvm.Cond.instanceMethod ({ cls := "GraphNamer", name := "graphWith", desc := "(II)LGraphNamer$Graph;" } : Jvm.MethodName)) ∈ tm_ws := List.mem_filter.mpr ⟨List.mem_of_getElem? (i := 282) (by decide +kernel), by decide +kernel⟩
theorem tw_283 : (Jvm.Cond.code ({ cls := "GraphNamer", name := "graphWith", desc := "(II)LGraphNamer$Graph;" } : Jvm.MethodName) prog_1_method_24_code (4 : Nat) (Option.some (Jvm.ClassFile.FieldType.object "GraphNamer$Graph"))) ∈ tm_ws := List.mem_filter.mpr ⟨List.mem_of_getElem? (i := 283) (by decide +kernel), by decide +kernel⟩
theorem tw_284 : (Jvm.Cond.methodLink "GraphNamer" (147 : Nat) ({ cls := "GraphNamer", name := "needVertex", desc := "(LGraphNamer$Graph;I)V" } : Jvm.MethodName)) ∈ tm_ws := List.mem_filter.mpr ⟨List.mem_of_getElem? (i := 284) (by decide +kernel), by decide +kernel⟩
theorem tw_285 : (Jvm.Cond.static ({ cls := "GraphNamer", name := "needVertex", desc := "(LGraphNamer$Graph;I)V" } : Jvm.MethodName)) ∈ tm_ws := List.mem_filter.mpr ⟨List.mem_of_getElem? (i := 285) (by decide +kernel), by decide +kernel⟩
theorem tw_286 : (Jvm.Cond.code ({ cls := "GraphNamer", name := "needVertex", desc := "(LGraphNamer$Graph;I)V" } : Jvm.MethodName) prog_1_method_26_code (2 : Nat) (Option.none : Option Jvm.ClassFile.FieldType)) ∈ tm_ws := List.mem_filter.mpr ⟨List.mem_of_getElem? (i := 286) (by decide +kernel), by decide +kernel⟩
theorem tw_288 : (Jvm.Cond.methodLink "GraphNamerLaw" (101 : Nat) ({ cls := "GraphNamerLaw", name := "join", desc := "(LGraphNamer;III[J)I" } : Jvm.MethodName)) ∈ tm_ws := List.mem_filter.mpr ⟨List.mem_of_getElem? (i := 288) (by decide +kernel), by decide +kernel⟩
theorem tw_289 : (Jvm.Cond.static ({ cls := "GraphNamerLaw", name := "join", desc := "(LGraphNamer;III[J)I" } : Jvm.MethodName)) ∈ tm_ws := List.mem_filter.mpr ⟨List.mem_of_getElem? (i := 289) (by decide +kernel), by decide +kernel⟩
theorem tw_290 : (Jvm.Cond.codeWith ({ cls := "GraphNamerLaw", name := "join", desc := "(LGraphNamer;III[J)I" } : Jvm.MethodName) method_5_code (6 : Nat) (Option.some Jvm.ClassFile.FieldType.int) [((0 : Nat), (12 : Nat), (15 : Nat), (13 : Nat)), ((0 : Nat), (12 : Nat), (19 : Nat), (15 : Nat)), ((0 : Nat), (12 : Nat), (23 : Nat), (17 : Nat))]) ∈ tm_ws := List.mem_filter.mpr ⟨List.mem_of_getElem? (i := 290) (by decide +kernel), by decide +kernel⟩
theorem tw_291 : (Jvm.Cond.methodLink "GraphNamerLaw" (23 : Nat) ({ cls := "GraphNamer", name := "join", desc := "(III)I" } : Jvm.MethodName)) ∈ tm_ws := List.mem_filter.mpr ⟨List.mem_of_getElem? (i := 291) (by decide +kernel), by decide +kernel⟩
theorem tw_292 : (Jvm.Cond.instanceMethod ({ cls := "GraphNamer", name := "join", desc := "(III)I" } : Jvm.MethodName)) ∈ tm_ws := List.mem_filter.mpr ⟨List.mem_of_getElem? (i := 292) (by decide +kernel), by decide +kernel⟩
theorem tw_293 : (Jvm.Cond.selects "GraphNamer" ({ cls := "GraphNamer", name := "join", desc := "(III)I" } : Jvm.MethodName) ({ cls := "GraphNamer", name := "join", desc := "(III)I" } : Jvm.MethodName)) ∈ tm_ws := List.mem_filter.mpr ⟨List.mem_of_getElem? (i := 293) (by decide +kernel), by decide +kernel⟩
theorem tw_294 : (Jvm.Cond.code ({ cls := "GraphNamer", name := "join", desc := "(III)I" } : Jvm.MethodName) prog_1_method_4_code (5 : Nat) (Option.some Jvm.ClassFile.FieldType.int)) ∈ tm_ws := List.mem_filter.mpr ⟨List.mem_of_getElem? (i := 294) (by decide +kernel), by decide +kernel⟩
theorem tw_295 : (Jvm.Cond.methodLink "GraphNamer" (75 : Nat) ({ cls := "GraphNamer", name := "graphWithPair", desc := "(III)LGraphNamer$Graph;" } : Jvm.MethodName)) ∈ tm_ws := List.mem_filter.mpr ⟨List.mem_of_getElem? (i := 295) (by decide +kernel), by decide +kernel⟩
theorem tw_297 : (Jvm.Cond.instanceMethod ({ cls := "GraphNamer", name := "graphWithPair", desc := "(III)LGraphNamer$Graph;" } : Jvm.MethodName)) ∈ tm_ws := List.mem_filter.mpr ⟨List.mem_of_getElem? (i := 297) (by decide +kernel), by decide +kernel⟩
theorem tw_298 : (Jvm.Cond.code ({ cls := "GraphNamer", name := "graphWithPair", desc := "(III)LGraphNamer$Graph;" } : Jvm.MethodName) prog_1_method_25_code (5 : Nat) (Option.some (Jvm.ClassFile.FieldType.object "GraphNamer$Graph"))) ∈ tm_ws := List.mem_filter.mpr ⟨List.mem_of_getElem? (i := 298) (by decide +kernel), by decide +kernel⟩
theorem tw_300 : (Jvm.Cond.methodLink "GraphNamer" (79 : Nat) ({ cls := "GraphNamer$Graph", name := "linked", desc := "(II)Z" } : Jvm.MethodName)) ∈ tm_ws := List.mem_filter.mpr ⟨List.mem_of_getElem? (i := 300) (by decide +kernel), by decide +kernel⟩
theorem tw_301 : (Jvm.Cond.instanceMethod ({ cls := "GraphNamer$Graph", name := "linked", desc := "(II)Z" } : Jvm.MethodName)) ∈ tm_ws := List.mem_filter.mpr ⟨List.mem_of_getElem? (i := 301) (by decide +kernel), by decide +kernel⟩
theorem tw_302 : (Jvm.Cond.selects "GraphNamer$Graph" ({ cls := "GraphNamer$Graph", name := "linked", desc := "(II)Z" } : Jvm.MethodName) ({ cls := "GraphNamer$Graph", name := "linked", desc := "(II)Z" } : Jvm.MethodName)) ∈ tm_ws := List.mem_filter.mpr ⟨List.mem_of_getElem? (i := 302) (by decide +kernel), by decide +kernel⟩
theorem tw_303 : (Jvm.Cond.code ({ cls := "GraphNamer$Graph", name := "linked", desc := "(II)Z" } : Jvm.MethodName) prog_2_method_4_code (3 : Nat) (Option.some Jvm.ClassFile.FieldType.boolean)) ∈ tm_ws := List.mem_filter.mpr ⟨List.mem_of_getElem? (i := 303) (by decide +kernel), by decide +kernel⟩
theorem tw_305 : (Jvm.Cond.methodLink "GraphNamer" (85 : Nat) ({ cls := "GraphNamer$Graph", name := "flipEdge", desc := "(II)V" } : Jvm.MethodName)) ∈ tm_ws := List.mem_filter.mpr ⟨List.mem_of_getElem? (i := 305) (by decide +kernel), by decide +kernel⟩
theorem tw_306 : (Jvm.Cond.instanceMethod ({ cls := "GraphNamer$Graph", name := "flipEdge", desc := "(II)V" } : Jvm.MethodName)) ∈ tm_ws := List.mem_filter.mpr ⟨List.mem_of_getElem? (i := 306) (by decide +kernel), by decide +kernel⟩
theorem tw_307 : (Jvm.Cond.selects "GraphNamer$Graph" ({ cls := "GraphNamer$Graph", name := "flipEdge", desc := "(II)V" } : Jvm.MethodName) ({ cls := "GraphNamer$Graph", name := "flipEdge", desc := "(II)V" } : Jvm.MethodName)) ∈ tm_ws := List.mem_filter.mpr ⟨List.mem_of_getElem? (i := 307) (by decide +kernel), by decide +kernel⟩
theorem tw_308 : (Jvm.Cond.code ({ cls := "GraphNamer$Graph", name := "flipEdge", desc := "(II)V" } : Jvm.MethodName) prog_2_method_6_code (3 : Nat) (Option.none : Option Jvm.ClassFile.FieldType)) ∈ tm_ws := List.mem_filter.mpr ⟨List.mem_of_getElem? (i := 308) (by decide +kernel), by decide +kernel⟩
theorem tw_309 : (Jvm.Cond.methodLink "GraphNamer" (89 : Nat) ({ cls := "GraphNamer$Graph", name := "edges", desc := "()I" } : Jvm.MethodName)) ∈ tm_ws := List.mem_filter.mpr ⟨List.mem_of_getElem? (i := 309) (by decide +kernel), by decide +kernel⟩
theorem tw_310 : (Jvm.Cond.instanceMethod ({ cls := "GraphNamer$Graph", name := "edges", desc := "()I" } : Jvm.MethodName)) ∈ tm_ws := List.mem_filter.mpr ⟨List.mem_of_getElem? (i := 310) (by decide +kernel), by decide +kernel⟩
theorem tw_311 : (Jvm.Cond.selects "GraphNamer$Graph" ({ cls := "GraphNamer$Graph", name := "edges", desc := "()I" } : Jvm.MethodName) ({ cls := "GraphNamer$Graph", name := "edges", desc := "()I" } : Jvm.MethodName)) ∈ tm_ws := List.mem_filter.mpr ⟨List.mem_of_getElem? (i := 311) (by decide +kernel), by decide +kernel⟩
theorem tw_312 : (Jvm.Cond.code ({ cls := "GraphNamer$Graph", name := "edges", desc := "()I" } : Jvm.MethodName) prog_2_method_8_code (3 : Nat) (Option.some Jvm.ClassFile.FieldType.int)) ∈ tm_ws := List.mem_filter.mpr ⟨List.mem_of_getElem? (i := 312) (by decide +kernel), by decide +kernel⟩
theorem tw_313 : (Jvm.Cond.methodLink "GraphNamer$Graph" (32 : Nat) ({ cls := "GraphNamer$Graph", name := "degree", desc := "(I)I" } : Jvm.MethodName)) ∈ tm_ws := List.mem_filter.mpr ⟨List.mem_of_getElem? (i := 313) (by decide +kernel), by decide +kernel⟩
theorem tw_314 : (Jvm.Cond.instanceMethod ({ cls := "GraphNamer$Graph", name := "degree", desc := "(I)I" } : Jvm.MethodName)) ∈ tm_ws := List.mem_filter.mpr ⟨List.mem_of_getElem? (i := 314) (by decide +kernel), by decide +kernel⟩
theorem tw_315 : (Jvm.Cond.selects "GraphNamer$Graph" ({ cls := "GraphNamer$Graph", name := "degree", desc := "(I)I" } : Jvm.MethodName) ({ cls := "GraphNamer$Graph", name := "degree", desc := "(I)I" } : Jvm.MethodName)) ∈ tm_ws := List.mem_filter.mpr ⟨List.mem_of_getElem? (i := 315) (by decide +kernel), by decide +kernel⟩
theorem tw_316 : (Jvm.Cond.code ({ cls := "GraphNamer$Graph", name := "degree", desc := "(I)I" } : Jvm.MethodName) prog_2_method_5_code (2 : Nat) (Option.some Jvm.ClassFile.FieldType.int)) ∈ tm_ws := List.mem_filter.mpr ⟨List.mem_of_getElem? (i := 316) (by decide +kernel), by decide +kernel⟩
theorem tw_317 : (Jvm.Cond.methodLink "GraphNamer$Graph" (22 : Nat) ({ cls := "java/lang/Integer", name := "bitCount", desc := "(I)I" } : Jvm.MethodName)) ∈ tm_ws := List.mem_filter.mpr ⟨List.mem_of_getElem? (i := 317) (by decide +kernel), by decide +kernel⟩
theorem tw_318 : (Jvm.Cond.static ({ cls := "java/lang/Integer", name := "bitCount", desc := "(I)I" } : Jvm.MethodName)) ∈ tm_ws := List.mem_filter.mpr ⟨List.mem_of_getElem? (i := 318) (by decide +kernel), by decide +kernel⟩
theorem tw_319 : (Jvm.Cond.code ({ cls := "java/lang/Integer", name := "bitCount", desc := "(I)I" } : Jvm.MethodName) prog_11_method_49_code (1 : Nat) (Option.some Jvm.ClassFile.FieldType.int)) ∈ tm_ws := List.mem_filter.mpr ⟨List.mem_of_getElem? (i := 319) (by decide +kernel), by decide +kernel⟩
theorem tw_320 : (Jvm.Cond.constant "java/lang/Integer" (265 : Nat) (1431655765 : Int32)) ∈ tm_ws := List.mem_filter.mpr ⟨List.mem_of_getElem? (i := 320) (by decide +kernel), by decide +kernel⟩
theorem tw_321 : (Jvm.Cond.constant "java/lang/Integer" (266 : Nat) (858993459 : Int32)) ∈ tm_ws := List.mem_filter.mpr ⟨List.mem_of_getElem? (i := 321) (by decide +kernel), by decide +kernel⟩
theorem tw_322 : (Jvm.Cond.constant "java/lang/Integer" (267 : Nat) (252645135 : Int32)) ∈ tm_ws := List.mem_filter.mpr ⟨List.mem_of_getElem? (i := 322) (by decide +kernel), by decide +kernel⟩
theorem tw_323 : (Jvm.Cond.methodLink "GraphNamerLaw" (104 : Nat) ({ cls := "GraphNamerLaw", name := "part", desc := "(LGraphNamer;III[J)I" } : Jvm.MethodName)) ∈ tm_ws := List.mem_filter.mpr ⟨List.mem_of_getElem? (i := 323) (by decide +kernel), by decide +kernel⟩
theorem tw_324 : (Jvm.Cond.static ({ cls := "GraphNamerLaw", name := "part", desc := "(LGraphNamer;III[J)I" } : Jvm.MethodName)) ∈ tm_ws := List.mem_filter.mpr ⟨List.mem_of_getElem? (i := 324) (by decide +kernel), by decide +kernel⟩
theorem tw_325 : (Jvm.Cond.codeWith ({ cls := "GraphNamerLaw", name := "part", desc := "(LGraphNamer;III[J)I" } : Jvm.MethodName) method_6_code (6 : Nat) (Option.some Jvm.ClassFile.FieldType.int) [((0 : Nat), (12 : Nat), (15 : Nat), (13 : Nat)), ((0 : Nat), (12 : Nat), (19 : Nat), (15 : Nat)), ((0 : Nat), (12 : Nat), (23 : Nat), (17 : Nat))]) ∈ tm_ws := List.mem_filter.mpr ⟨List.mem_of_getElem? (i := 325) (by decide +kernel), by decide +kernel⟩
theorem tw_326 : (Jvm.Cond.methodLink "GraphNamerLaw" (26 : Nat) ({ cls := "GraphNamer", name := "part", desc := "(III)I" } : Jvm.MethodName)) ∈ tm_ws := List.mem_filter.mpr ⟨List.mem_of_getElem? (i := 326) (by decide +kernel), by decide +kernel⟩
theorem tw_327 : (Jvm.Cond.instanceMethod ({ cls := "GraphNamer", name := "part", desc := "(III)I" } : Jvm.MethodName)) ∈ tm_ws := List.mem_filter.mpr ⟨List.mem_of_getElem? (i := 327) (by decide +kernel), by decide +kernel⟩
theorem tw_328 : (Jvm.Cond.selects "GraphNamer" ({ cls := "GraphNamer", name := "part", desc := "(III)I" } : Jvm.MethodName) ({ cls := "GraphNamer", name := "part", desc := "(III)I" } : Jvm.MethodName)) ∈ tm_ws := List.mem_filter.mpr ⟨List.mem_of_getElem? (i := 328) (by decide +kernel), by decide +kernel⟩
theorem tw_329 : (Jvm.Cond.code ({ cls := "GraphNamer", name := "part", desc := "(III)I" } : Jvm.MethodName) prog_1_method_5_code (5 : Nat) (Option.some Jvm.ClassFile.FieldType.int)) ∈ tm_ws := List.mem_filter.mpr ⟨List.mem_of_getElem? (i := 329) (by decide +kernel), by decide +kernel⟩
theorem tw_331 : (Jvm.Cond.methodLink "GraphNamerLaw" (107 : Nat) ({ cls := "GraphNamerLaw", name := "clear", desc := "(LGraphNamer;I[J)I" } : Jvm.MethodName)) ∈ tm_ws := List.mem_filter.mpr ⟨List.mem_of_getElem? (i := 331) (by decide +kernel), by decide +kernel⟩
theorem tw_332 : (Jvm.Cond.static ({ cls := "GraphNamerLaw", name := "clear", desc := "(LGraphNamer;I[J)I" } : Jvm.MethodName)) ∈ tm_ws := List.mem_filter.mpr ⟨List.mem_of_getElem? (i := 332) (by decide +kernel), by decide +kernel⟩
theorem tw_333 : (Jvm.Cond.codeWith ({ cls := "GraphNamerLaw", name := "clear", desc := "(LGraphNamer;I[J)I" } : Jvm.MethodName) method_7_code (4 : Nat) (Option.some Jvm.ClassFile.FieldType.int) [((0 : Nat), (9 : Nat), (12 : Nat), (13 : Nat))]) ∈ tm_ws := List.mem_filter.mpr ⟨List.mem_of_getElem? (i := 333) (by decide +kernel), by decide +kernel⟩
theorem tw_334 : (Jvm.Cond.methodLink "GraphNamerLaw" (29 : Nat) ({ cls := "GraphNamer", name := "clear", desc := "(I)I" } : Jvm.MethodName)) ∈ tm_ws := List.mem_filter.mpr ⟨List.mem_of_getElem? (i := 334) (by decide +kernel), by decide +kernel⟩
theorem tw_335 : (Jvm.Cond.instanceMethod ({ cls := "GraphNamer", name := "clear", desc := "(I)I" } : Jvm.MethodName)) ∈ tm_ws := List.mem_filter.mpr ⟨List.mem_of_getElem? (i := 335) (by decide +kernel), by decide +kernel⟩
theorem tw_336 : (Jvm.Cond.selects "GraphNamer" ({ cls := "GraphNamer", name := "clear", desc := "(I)I" } : Jvm.MethodName) ({ cls := "GraphNamer", name := "clear", desc := "(I)I" } : Jvm.MethodName)) ∈ tm_ws := List.mem_filter.mpr ⟨List.mem_of_getElem? (i := 336) (by decide +kernel), by decide +kernel⟩
theorem tw_337 : (Jvm.Cond.code ({ cls := "GraphNamer", name := "clear", desc := "(I)I" } : Jvm.MethodName) prog_1_method_6_code (4 : Nat) (Option.some Jvm.ClassFile.FieldType.int)) ∈ tm_ws := List.mem_filter.mpr ⟨List.mem_of_getElem? (i := 337) (by decide +kernel), by decide +kernel⟩
theorem tw_338 : (Jvm.Cond.methodLink "GraphNamerLaw" (111 : Nat) ({ cls := "GraphNamerLaw", name := "copy", desc := "(LGraphNamer;II[J)I" } : Jvm.MethodName)) ∈ tm_ws := List.mem_filter.mpr ⟨List.mem_of_getElem? (i := 338) (by decide +kernel), by decide +kernel⟩
theorem tw_339 : (Jvm.Cond.static ({ cls := "GraphNamerLaw", name := "copy", desc := "(LGraphNamer;II[J)I" } : Jvm.MethodName)) ∈ tm_ws := List.mem_filter.mpr ⟨List.mem_of_getElem? (i := 339) (by decide +kernel), by decide +kernel⟩
theorem tw_340 : (Jvm.Cond.codeWith ({ cls := "GraphNamerLaw", name := "copy", desc := "(LGraphNamer;II[J)I" } : Jvm.MethodName) method_8_code (5 : Nat) (Option.some Jvm.ClassFile.FieldType.int) [((0 : Nat), (10 : Nat), (13 : Nat), (13 : Nat))]) ∈ tm_ws := List.mem_filter.mpr ⟨List.mem_of_getElem? (i := 340) (by decide +kernel), by decide +kernel⟩
theorem tw_341 : (Jvm.Cond.methodLink "GraphNamerLaw" (33 : Nat) ({ cls := "GraphNamer", name := "copy", desc := "(II)I" } : Jvm.MethodName)) ∈ tm_ws := List.mem_filter.mpr ⟨List.mem_of_getElem? (i := 341) (by decide +kernel), by decide +kernel⟩
theorem tw_342 : (Jvm.Cond.instanceMethod ({ cls := "GraphNamer", name := "copy", desc := "(II)I" } : Jvm.MethodName)) ∈ tm_ws := List.mem_filter.mpr ⟨List.mem_of_getElem? (i := 342) (by decide +kernel), by decide +kernel⟩
theorem tw_343 : (Jvm.Cond.selects "GraphNamer" ({ cls := "GraphNamer", name := "copy", desc := "(II)I" } : Jvm.MethodName) ({ cls := "GraphNamer", name := "copy", desc := "(II)I" } : Jvm.MethodName)) ∈ tm_ws := List.mem_filter.mpr ⟨List.mem_of_getElem? (i := 343) (by decide +kernel), by decide +kernel⟩
theorem tw_344 : (Jvm.Cond.code ({ cls := "GraphNamer", name := "copy", desc := "(II)I" } : Jvm.MethodName) prog_1_method_7_code (4 : Nat) (Option.some Jvm.ClassFile.FieldType.int)) ∈ tm_ws := List.mem_filter.mpr ⟨List.mem_of_getElem? (i := 344) (by decide +kernel), by decide +kernel⟩
theorem tw_345 : (Jvm.Cond.methodLink "GraphNamer" (95 : Nat) ({ cls := "GraphNamer$Graph", name := "become", desc := "(LGraphNamer$Graph;)V" } : Jvm.MethodName)) ∈ tm_ws := List.mem_filter.mpr ⟨List.mem_of_getElem? (i := 345) (by decide +kernel), by decide +kernel⟩
theorem tw_346 : (Jvm.Cond.instanceMethod ({ cls := "GraphNamer$Graph", name := "become", desc := "(LGraphNamer$Graph;)V" } : Jvm.MethodName)) ∈ tm_ws := List.mem_filter.mpr ⟨List.mem_of_getElem? (i := 346) (by decide +kernel), by decide +kernel⟩
theorem tw_347 : (Jvm.Cond.selects "GraphNamer$Graph" ({ cls := "GraphNamer$Graph", name := "become", desc := "(LGraphNamer$Graph;)V" } : Jvm.MethodName) ({ cls := "GraphNamer$Graph", name := "become", desc := "(LGraphNamer$Graph;)V" } : Jvm.MethodName)) ∈ tm_ws := List.mem_filter.mpr ⟨List.mem_of_getElem? (i := 347) (by decide +kernel), by decide +kernel⟩
theorem tw_348 : (Jvm.Cond.code ({ cls := "GraphNamer$Graph", name := "become", desc := "(LGraphNamer$Graph;)V" } : Jvm.MethodName) prog_2_method_9_code (3 : Nat) (Option.none : Option Jvm.ClassFile.FieldType)) ∈ tm_ws := List.mem_filter.mpr ⟨List.mem_of_getElem? (i := 348) (by decide +kernel), by decide +kernel⟩
theorem tw_349 : (Jvm.Cond.methodLink "GraphNamerLaw" (114 : Nat) ({ cls := "GraphNamerLaw", name := "turn", desc := "(LGraphNamer;I[J)I" } : Jvm.MethodName)) ∈ tm_ws := List.mem_filter.mpr ⟨List.mem_of_getElem? (i := 349) (by decide +kernel), by decide +kernel⟩
theorem tw_350 : (Jvm.Cond.static ({ cls := "GraphNamerLaw", name := "turn", desc := "(LGraphNamer;I[J)I" } : Jvm.MethodName)) ∈ tm_ws := List.mem_filter.mpr ⟨List.mem_of_getElem? (i := 350) (by decide +kernel), by decide +kernel⟩
theorem tw_351 : (Jvm.Cond.codeWith ({ cls := "GraphNamerLaw", name := "turn", desc := "(LGraphNamer;I[J)I" } : Jvm.MethodName) method_9_code (4 : Nat) (Option.some Jvm.ClassFile.FieldType.int) [((0 : Nat), (9 : Nat), (12 : Nat), (13 : Nat))]) ∈ tm_ws := List.mem_filter.mpr ⟨List.mem_of_getElem? (i := 351) (by decide +kernel), by decide +kernel⟩
theorem tw_352 : (Jvm.Cond.methodLink "GraphNamerLaw" (36 : Nat) ({ cls := "GraphNamer", name := "turn", desc := "(I)I" } : Jvm.MethodName)) ∈ tm_ws := List.mem_filter.mpr ⟨List.mem_of_getElem? (i := 352) (by decide +kernel), by decide +kernel⟩
theorem tw_353 : (Jvm.Cond.instanceMethod ({ cls := "GraphNamer", name := "turn", desc := "(I)I" } : Jvm.MethodName)) ∈ tm_ws := List.mem_filter.mpr ⟨List.mem_of_getElem? (i := 353) (by decide +kernel), by decide +kernel⟩
theorem tw_354 : (Jvm.Cond.selects "GraphNamer" ({ cls := "GraphNamer", name := "turn", desc := "(I)I" } : Jvm.MethodName) ({ cls := "GraphNamer", name := "turn", desc := "(I)I" } : Jvm.MethodName)) ∈ tm_ws := List.mem_filter.mpr ⟨List.mem_of_getElem? (i := 354) (by decide +kernel), by decide +kernel⟩
theorem tw_355 : (Jvm.Cond.code ({ cls := "GraphNamer", name := "turn", desc := "(I)I" } : Jvm.MethodName) prog_1_method_8_code (3 : Nat) (Option.some Jvm.ClassFile.FieldType.int)) ∈ tm_ws := List.mem_filter.mpr ⟨List.mem_of_getElem? (i := 355) (by decide +kernel), by decide +kernel⟩
theorem tw_356 : (Jvm.Cond.methodLink "GraphNamer" (99 : Nat) ({ cls := "GraphNamer$Graph", name := "flipAllEdges", desc := "()V" } : Jvm.MethodName)) ∈ tm_ws := List.mem_filter.mpr ⟨List.mem_of_getElem? (i := 356) (by decide +kernel), by decide +kernel⟩
theorem tw_357 : (Jvm.Cond.instanceMethod ({ cls := "GraphNamer$Graph", name := "flipAllEdges", desc := "()V" } : Jvm.MethodName)) ∈ tm_ws := List.mem_filter.mpr ⟨List.mem_of_getElem? (i := 357) (by decide +kernel), by decide +kernel⟩
theorem tw_358 : (Jvm.Cond.selects "GraphNamer$Graph" ({ cls := "GraphNamer$Graph", name := "flipAllEdges", desc := "()V" } : Jvm.MethodName) ({ cls := "GraphNamer$Graph", name := "flipAllEdges", desc := "()V" } : Jvm.MethodName)) ∈ tm_ws := List.mem_filter.mpr ⟨List.mem_of_getElem? (i := 358) (by decide +kernel), by decide +kernel⟩
theorem tw_359 : (Jvm.Cond.code ({ cls := "GraphNamer$Graph", name := "flipAllEdges", desc := "()V" } : Jvm.MethodName) prog_2_method_7_code (2 : Nat) (Option.none : Option Jvm.ClassFile.FieldType)) ∈ tm_ws := List.mem_filter.mpr ⟨List.mem_of_getElem? (i := 359) (by decide +kernel), by decide +kernel⟩
theorem tw_360 : (Jvm.Cond.methodLink "GraphNamer$Graph" (28 : Nat) ({ cls := "GraphNamer$Graph", name := "all", desc := "()I" } : Jvm.MethodName)) ∈ tm_ws := List.mem_filter.mpr ⟨List.mem_of_getElem? (i := 360) (by decide +kernel), by decide +kernel⟩
theorem tw_361 : (Jvm.Cond.instanceMethod ({ cls := "GraphNamer$Graph", name := "all", desc := "()I" } : Jvm.MethodName)) ∈ tm_ws := List.mem_filter.mpr ⟨List.mem_of_getElem? (i := 361) (by decide +kernel), by decide +kernel⟩
theorem tw_362 : (Jvm.Cond.selects "GraphNamer$Graph" ({ cls := "GraphNamer$Graph", name := "all", desc := "()I" } : Jvm.MethodName) ({ cls := "GraphNamer$Graph", name := "all", desc := "()I" } : Jvm.MethodName)) ∈ tm_ws := List.mem_filter.mpr ⟨List.mem_of_getElem? (i := 362) (by decide +kernel), by decide +kernel⟩
theorem tw_363 : (Jvm.Cond.code ({ cls := "GraphNamer$Graph", name := "all", desc := "()I" } : Jvm.MethodName) prog_2_method_3_code (1 : Nat) (Option.some Jvm.ClassFile.FieldType.int)) ∈ tm_ws := List.mem_filter.mpr ⟨List.mem_of_getElem? (i := 363) (by decide +kernel), by decide +kernel⟩
theorem tw_364 : (Jvm.Cond.methodLink "GraphNamerLaw" (117 : Nat) ({ cls := "GraphNamerLaw", name := "settle", desc := "(LGraphNamer;I[J)I" } : Jvm.MethodName)) ∈ tm_ws := List.mem_filter.mpr ⟨List.mem_of_getElem? (i := 364) (by decide +kernel), by decide +kernel⟩
theorem tw_365 : (Jvm.Cond.static ({ cls := "GraphNamerLaw", name := "settle", desc := "(LGraphNamer;I[J)I" } : Jvm.MethodName)) ∈ tm_ws := List.mem_filter.mpr ⟨List.mem_of_getElem? (i := 365) (by decide +kernel), by decide +kernel⟩
theorem tw_366 : (Jvm.Cond.codeWith ({ cls := "GraphNamerLaw", name := "settle", desc := "(LGraphNamer;I[J)I" } : Jvm.MethodName) method_10_code (4 : Nat) (Option.some Jvm.ClassFile.FieldType.int) [((0 : Nat), (9 : Nat), (12 : Nat), (13 : Nat))]) ∈ tm_ws := List.mem_filter.mpr ⟨List.mem_of_getElem? (i := 366) (by decide +kernel), by decide +kernel⟩
theorem tw_367 : (Jvm.Cond.methodLink "GraphNamerLaw" (39 : Nat) ({ cls := "GraphNamer", name := "settle", desc := "(I)I" } : Jvm.MethodName)) ∈ tm_ws := List.mem_filter.mpr ⟨List.mem_of_getElem? (i := 367) (by decide +kernel), by decide +kernel⟩
theorem tw_368 : (Jvm.Cond.instanceMethod ({ cls := "GraphNamer", name := "settle", desc := "(I)I" } : Jvm.MethodName)) ∈ tm_ws := List.mem_filter.mpr ⟨List.mem_of_getElem? (i := 368) (by decide +kernel), by decide +kernel⟩
theorem tw_369 : (Jvm.Cond.selects "GraphNamer" ({ cls := "GraphNamer", name := "settle", desc := "(I)I" } : Jvm.MethodName) ({ cls := "GraphNamer", name := "settle", desc := "(I)I" } : Jvm.MethodName)) ∈ tm_ws := List.mem_filter.mpr ⟨List.mem_of_getElem? (i := 369) (by decide +kernel), by decide +kernel⟩
theorem tw_370 : (Jvm.Cond.code ({ cls := "GraphNamer", name := "settle", desc := "(I)I" } : Jvm.MethodName) prog_1_method_9_code (5 : Nat) (Option.some Jvm.ClassFile.FieldType.int)) ∈ tm_ws := List.mem_filter.mpr ⟨List.mem_of_getElem? (i := 370) (by decide +kernel), by decide +kernel⟩
theorem tw_371 : (Jvm.Cond.methodLink "GraphNamer" (102 : Nat) ({ cls := "GraphNamer$Numbering", name := "find", desc := "(LGraphNamer$Graph;)V" } : Jvm.MethodName)) ∈ tm_ws := List.mem_filter.mpr ⟨List.mem_of_getElem? (i := 371) (by decide +kernel), by decide +kernel⟩
theorem tw_372 : (Jvm.Cond.instanceMethod ({ cls := "GraphNamer$Numbering", name := "find", desc := "(LGraphNamer$Graph;)V" } : Jvm.MethodName)) ∈ tm_ws := List.mem_filter.mpr ⟨List.mem_of_getElem? (i := 372) (by decide +kernel), by decide +kernel⟩
theorem tw_373 : (Jvm.Cond.selects "GraphNamer$Numbering" ({ cls := "GraphNamer$Numbering", name := "find", desc := "(LGraphNamer$Graph;)V" } : Jvm.MethodName) ({ cls := "GraphNamer$Numbering", name := "find", desc := "(LGraphNamer$Graph;)V" } : Jvm.MethodName)) ∈ tm_ws := List.mem_filter.mpr ⟨List.mem_of_getElem? (i := 373) (by decide +kernel), by decide +kernel⟩
theorem tw_374 : (Jvm.Cond.code ({ cls := "GraphNamer$Numbering", name := "find", desc := "(LGraphNamer$Graph;)V" } : Jvm.MethodName) prog_4_method_2_code (3 : Nat) (Option.none : Option Jvm.ClassFile.FieldType)) ∈ tm_ws := List.mem_filter.mpr ⟨List.mem_of_getElem? (i := 374) (by decide +kernel), by decide +kernel⟩
theorem tw_375 : (Jvm.Cond.constant "GraphNamer$Numbering" (27 : Nat) (2147483647 : Int32)) ∈ tm_ws := List.mem_filter.mpr ⟨List.mem_of_getElem? (i := 375) (by decide +kernel), by decide +kernel⟩
theorem tw_376 : (Jvm.Cond.methodLink "GraphNamer$Numbering" (28 : Nat) ({ cls := "GraphNamer$Graph", name := "all", desc := "()I" } : Jvm.MethodName)) ∈ tm_ws := List.mem_filter.mpr ⟨List.mem_of_getElem? (i := 376) (by decide +kernel), by decide +kernel⟩
theorem tw_377 : (Jvm.Cond.methodLink "GraphNamer$Numbering" (34 : Nat) ({ cls := "GraphNamer$Numbering", name := "fill", desc := "(LGraphNamer$Graph;III)V" } : Jvm.MethodName)) ∈ tm_ws := List.mem_filter.mpr ⟨List.mem_of_getElem? (i := 377) (by decide +kernel), by decide +kernel⟩
theorem tw_379 : (Jvm.Cond.instanceMethod ({ cls := "GraphNamer$Numbering", name := "fill", desc := "(LGraphNamer$Graph;III)V" } : Jvm.MethodName)) ∈ tm_ws := List.mem_filter.mpr ⟨List.mem_of_getElem? (i := 379) (by decide +kernel), by decide +kernel⟩
theorem tw_380 : (Jvm.Cond.code ({ cls := "GraphNamer$Numbering", name := "fill", desc := "(LGraphNamer$Graph;III)V" } : Jvm.MethodName) prog_4_method_3_code (9 : Nat) (Option.none : Option Jvm.ClassFile.FieldType)) ∈ tm_ws := List.mem_filter.mpr ⟨List.mem_of_getElem? (i := 380) (by decide +kernel), by decide +kernel⟩
theorem tw_381 : (Jvm.Cond.methodLink "GraphNamer$Numbering" (41 : Nat) ({ cls := "GraphNamer$Numbering", name := "keepIfLess", desc := "(II)V" } : Jvm.MethodName)) ∈ tm_ws := List.mem_filter.mpr ⟨List.mem_of_getElem? (i := 381) (by decide +kernel), by decide +kernel⟩
theorem tw_383 : (Jvm.Cond.instanceMethod ({ cls := "GraphNamer$Numbering", name := "keepIfLess", desc := "(II)V" } : Jvm.MethodName)) ∈ tm_ws := List.mem_filter.mpr ⟨List.mem_of_getElem? (i := 383) (by decide +kernel), by decide +kernel⟩
theorem tw_384 : (Jvm.Cond.code ({ cls := "GraphNamer$Numbering", name := "keepIfLess", desc := "(II)V" } : Jvm.MethodName) prog_4_method_4_code (3 : Nat) (Option.none : Option Jvm.ClassFile.FieldType)) ∈ tm_ws := List.mem_filter.mpr ⟨List.mem_of_getElem? (i := 384) (by decide +kernel), by decide +kernel⟩
theorem tw_388 : (Jvm.Cond.methodLink "GraphNamer$Numbering" (45 : Nat) ({ cls := "GraphNamer$Numbering", name := "leastColoured", desc := "(LGraphNamer$Graph;I)I" } : Jvm.MethodName)) ∈ tm_ws := List.mem_filter.mpr ⟨List.mem_of_getElem? (i := 388) (by decide +kernel), by decide +kernel⟩
theorem tw_389 : (Jvm.Cond.static ({ cls := "GraphNamer$Numbering", name := "leastColoured", desc := "(LGraphNamer$Graph;I)I" } : Jvm.MethodName)) ∈ tm_ws := List.mem_filter.mpr ⟨List.mem_of_getElem? (i := 389) (by decide +kernel), by decide +kernel⟩
theorem tw_390 : (Jvm.Cond.code ({ cls := "GraphNamer$Numbering", name := "leastColoured", desc := "(LGraphNamer$Graph;I)I" } : Jvm.MethodName) prog_4_method_6_code (4 : Nat) (Option.some Jvm.ClassFile.FieldType.int)) ∈ tm_ws := List.mem_filter.mpr ⟨List.mem_of_getElem? (i := 390) (by decide +kernel), by decide +kernel⟩
theorem tw_391 : (Jvm.Cond.methodLink "GraphNamer$Numbering" (74 : Nat) ({ cls := "GraphNamer$Graph", name := "coloured", desc := "(I)I" } : Jvm.MethodName)) ∈ tm_ws := List.mem_filter.mpr ⟨List.mem_of_getElem? (i := 391) (by decide +kernel), by decide +kernel⟩
theorem tw_392 : (Jvm.Cond.instanceMethod ({ cls := "GraphNamer$Graph", name := "coloured", desc := "(I)I" } : Jvm.MethodName)) ∈ tm_ws := List.mem_filter.mpr ⟨List.mem_of_getElem? (i := 392) (by decide +kernel), by decide +kernel⟩
theorem tw_393 : (Jvm.Cond.selects "GraphNamer$Graph" ({ cls := "GraphNamer$Graph", name := "coloured", desc := "(I)I" } : Jvm.MethodName) ({ cls := "GraphNamer$Graph", name := "coloured", desc := "(I)I" } : Jvm.MethodName)) ∈ tm_ws := List.mem_filter.mpr ⟨List.mem_of_getElem? (i := 393) (by decide +kernel), by decide +kernel⟩
theorem tw_394 : (Jvm.Cond.code ({ cls := "GraphNamer$Graph", name := "coloured", desc := "(I)I" } : Jvm.MethodName) prog_2_method_11_code (4 : Nat) (Option.some Jvm.ClassFile.FieldType.int)) ∈ tm_ws := List.mem_filter.mpr ⟨List.mem_of_getElem? (i := 394) (by decide +kernel), by decide +kernel⟩
theorem tw_395 : (Jvm.Cond.methodLink "GraphNamer$Numbering" (49 : Nat) ({ cls := "GraphNamer$Numbering", name := "leastBits", desc := "(LGraphNamer$Graph;II)I" } : Jvm.MethodName)) ∈ tm_ws := List.mem_filter.mpr ⟨List.mem_of_getElem? (i := 395) (by decide +kernel), by decide +kernel⟩
theorem tw_397 : (Jvm.Cond.instanceMethod ({ cls := "GraphNamer$Numbering", name := "leastBits", desc := "(LGraphNamer$Graph;II)I" } : Jvm.MethodName)) ∈ tm_ws := List.mem_filter.mpr ⟨List.mem_of_getElem? (i := 397) (by decide +kernel), by decide +kernel⟩
theorem tw_398 : (Jvm.Cond.code ({ cls := "GraphNamer$Numbering", name := "leastBits", desc := "(LGraphNamer$Graph;II)I" } : Jvm.MethodName) prog_4_method_7_code (6 : Nat) (Option.some Jvm.ClassFile.FieldType.int)) ∈ tm_ws := List.mem_filter.mpr ⟨List.mem_of_getElem? (i := 398) (by decide +kernel), by decide +kernel⟩
theorem tw_399 : (Jvm.Cond.methodLinkNest "GraphNamer$Numbering" (57 : Nat) ({ cls := "GraphNamer", name := "contains", desc := "(II)Z" } : Jvm.MethodName) "GraphNamer") ∈ tm_ws := List.mem_filter.mpr ⟨List.mem_of_getElem? (i := 399) (by decide +kernel), by decide +kernel⟩
theorem tw_400 : (Jvm.Cond.static ({ cls := "GraphNamer", name := "contains", desc := "(II)Z" } : Jvm.MethodName)) ∈ tm_ws := List.mem_filter.mpr ⟨List.mem_of_getElem? (i := 400) (by decide +kernel), by decide +kernel⟩
theorem tw_401 : (Jvm.Cond.code ({ cls := "GraphNamer", name := "contains", desc := "(II)Z" } : Jvm.MethodName) prog_1_method_30_code (2 : Nat) (Option.some Jvm.ClassFile.FieldType.boolean)) ∈ tm_ws := List.mem_filter.mpr ⟨List.mem_of_getElem? (i := 401) (by decide +kernel), by decide +kernel⟩
theorem tw_402 : (Jvm.Cond.methodLink "GraphNamer$Numbering" (61 : Nat) ({ cls := "GraphNamer$Numbering", name := "bitsAt", desc := "(LGraphNamer$Graph;II)I" } : Jvm.MethodName)) ∈ tm_ws := List.mem_filter.mpr ⟨List.mem_of_getElem? (i := 402) (by decide +kernel), by decide +kernel⟩
theorem tw_404 : (Jvm.Cond.instanceMethod ({ cls := "GraphNamer$Numbering", name := "bitsAt", desc := "(LGraphNamer$Graph;II)I" } : Jvm.MethodName)) ∈ tm_ws := List.mem_filter.mpr ⟨List.mem_of_getElem? (i := 404) (by decide +kernel), by decide +kernel⟩
theorem tw_405 : (Jvm.Cond.code ({ cls := "GraphNamer$Numbering", name := "bitsAt", desc := "(LGraphNamer$Graph;II)I" } : Jvm.MethodName) prog_4_method_8_code (6 : Nat) (Option.some Jvm.ClassFile.FieldType.int)) ∈ tm_ws := List.mem_filter.mpr ⟨List.mem_of_getElem? (i := 405) (by decide +kernel), by decide +kernel⟩
theorem tw_406 : (Jvm.Cond.methodLink "GraphNamer$Numbering" (83 : Nat) ({ cls := "GraphNamer$Graph", name := "linked", desc := "(II)Z" } : Jvm.MethodName)) ∈ tm_ws := List.mem_filter.mpr ⟨List.mem_of_getElem? (i := 406) (by decide +kernel), by decide +kernel⟩
theorem tw_407 : (Jvm.Cond.methodLink "GraphNamer$Numbering" (78 : Nat) ({ cls := "java/lang/Math", name := "min", desc := "(II)I" } : Jvm.MethodName)) ∈ tm_ws := List.mem_filter.mpr ⟨List.mem_of_getElem? (i := 407) (by decide +kernel), by decide +kernel⟩
theorem tw_408 : (Jvm.Cond.static ({ cls := "java/lang/Math", name := "min", desc := "(II)I" } : Jvm.MethodName)) ∈ tm_ws := List.mem_filter.mpr ⟨List.mem_of_getElem? (i := 408) (by decide +kernel), by decide +kernel⟩
theorem tw_409 : (Jvm.Cond.code ({ cls := "java/lang/Math", name := "min", desc := "(II)I" } : Jvm.MethodName) prog_12_method_69_code (2 : Nat) (Option.some Jvm.ClassFile.FieldType.int)) ∈ tm_ws := List.mem_filter.mpr ⟨List.mem_of_getElem? (i := 409) (by decide +kernel), by decide +kernel⟩
theorem tw_410 : (Jvm.Cond.methodLink "GraphNamer$Numbering" (53 : Nat) ({ cls := "GraphNamer$Numbering", name := "bitsBehind", desc := "(II)I" } : Jvm.MethodName)) ∈ tm_ws := List.mem_filter.mpr ⟨List.mem_of_getElem? (i := 410) (by decide +kernel), by decide +kernel⟩
theorem tw_411 : (Jvm.Cond.static ({ cls := "GraphNamer$Numbering", name := "bitsBehind", desc := "(II)I" } : Jvm.MethodName)) ∈ tm_ws := List.mem_filter.mpr ⟨List.mem_of_getElem? (i := 411) (by decide +kernel), by decide +kernel⟩
theorem tw_412 : (Jvm.Cond.code ({ cls := "GraphNamer$Numbering", name := "bitsBehind", desc := "(II)I" } : Jvm.MethodName) prog_4_method_5_code (2 : Nat) (Option.some Jvm.ClassFile.FieldType.int)) ∈ tm_ws := List.mem_filter.mpr ⟨List.mem_of_getElem? (i := 412) (by decide +kernel), by decide +kernel⟩
theorem tw_413 : (Jvm.Cond.methodLink "GraphNamer$Numbering" (64 : Nat) ({ cls := "GraphNamer$Numbering", name := "hasLesserTwin", desc := "(LGraphNamer$Graph;II)Z" } : Jvm.MethodName)) ∈ tm_ws := List.mem_filter.mpr ⟨List.mem_of_getElem? (i := 413) (by decide +kernel), by decide +kernel⟩
theorem tw_414 : (Jvm.Cond.static ({ cls := "GraphNamer$Numbering", name := "hasLesserTwin", desc := "(LGraphNamer$Graph;II)Z" } : Jvm.MethodName)) ∈ tm_ws := List.mem_filter.mpr ⟨List.mem_of_getElem? (i := 414) (by decide +kernel), by decide +kernel⟩
theorem tw_415 : (Jvm.Cond.code ({ cls := "GraphNamer$Numbering", name := "hasLesserTwin", desc := "(LGraphNamer$Graph;II)Z" } : Jvm.MethodName) prog_4_method_9_code (4 : Nat) (Option.some Jvm.ClassFile.FieldType.boolean)) ∈ tm_ws := List.mem_filter.mpr ⟨List.mem_of_getElem? (i := 415) (by decide +kernel), by decide +kernel⟩
theorem tw_416 : (Jvm.Cond.methodLink "GraphNamer$Numbering" (86 : Nat) ({ cls := "GraphNamer$Graph", name := "twins", desc := "(II)Z" } : Jvm.MethodName)) ∈ tm_ws := List.mem_filter.mpr ⟨List.mem_of_getElem? (i := 416) (by decide +kernel), by decide +kernel⟩
theorem tw_417 : (Jvm.Cond.instanceMethod ({ cls := "GraphNamer$Graph", name := "twins", desc := "(II)Z" } : Jvm.MethodName)) ∈ tm_ws := List.mem_filter.mpr ⟨List.mem_of_getElem? (i := 417) (by decide +kernel), by decide +kernel⟩
theorem tw_418 : (Jvm.Cond.selects "GraphNamer$Graph" ({ cls := "GraphNamer$Graph", name := "twins", desc := "(II)Z" } : Jvm.MethodName) ({ cls := "GraphNamer$Graph", name := "twins", desc := "(II)Z" } : Jvm.MethodName)) ∈ tm_ws := List.mem_filter.mpr ⟨List.mem_of_getElem? (i := 418) (by decide +kernel), by decide +kernel⟩
theorem tw_419 : (Jvm.Cond.code ({ cls := "GraphNamer$Graph", name := "twins", desc := "(II)Z" } : Jvm.MethodName) prog_2_method_13_code (4 : Nat) (Option.some Jvm.ClassFile.FieldType.boolean)) ∈ tm_ws := List.mem_filter.mpr ⟨List.mem_of_getElem? (i := 419) (by decide +kernel), by decide +kernel⟩
theorem tw_420 : (Jvm.Cond.methodLink "GraphNamer" (108 : Nat) ({ cls := "GraphNamer$Graph", name := "becomeInOrder", desc := "(LGraphNamer$Graph;[I)V" } : Jvm.MethodName)) ∈ tm_ws := List.mem_filter.mpr ⟨List.mem_of_getElem? (i := 420) (by decide +kernel), by decide +kernel⟩
theorem tw_421 : (Jvm.Cond.instanceMethod ({ cls := "GraphNamer$Graph", name := "becomeInOrder", desc := "(LGraphNamer$Graph;[I)V" } : Jvm.MethodName)) ∈ tm_ws := List.mem_filter.mpr ⟨List.mem_of_getElem? (i := 421) (by decide +kernel), by decide +kernel⟩
theorem tw_422 : (Jvm.Cond.selects "GraphNamer$Graph" ({ cls := "GraphNamer$Graph", name := "becomeInOrder", desc := "(LGraphNamer$Graph;[I)V" } : Jvm.MethodName) ({ cls := "GraphNamer$Graph", name := "becomeInOrder", desc := "(LGraphNamer$Graph;[I)V" } : Jvm.MethodName)) ∈ tm_ws := List.mem_filter.mpr ⟨List.mem_of_getElem? (i := 422) (by decide +kernel), by decide +kernel⟩
theorem tw_423 : (Jvm.Cond.code ({ cls := "GraphNamer$Graph", name := "becomeInOrder", desc := "(LGraphNamer$Graph;[I)V" } : Jvm.MethodName) prog_2_method_10_code (5 : Nat) (Option.none : Option Jvm.ClassFile.FieldType)) ∈ tm_ws := List.mem_filter.mpr ⟨List.mem_of_getElem? (i := 423) (by decide +kernel), by decide +kernel⟩
theorem tw_424 : (Jvm.Cond.methodLink "GraphNamer$Graph" (35 : Nat) ({ cls := "GraphNamer$Graph", name := "linked", desc := "(II)Z" } : Jvm.MethodName)) ∈ tm_ws := List.mem_filter.mpr ⟨List.mem_of_getElem? (i := 424) (by decide +kernel), by decide +kernel⟩
theorem tw_425 : (Jvm.Cond.methodLink "GraphNamerLaw" (120 : Nat) ({ cls := "GraphNamerLaw", name := "size", desc := "(LGraphNamer;I[J)I" } : Jvm.MethodName)) ∈ tm_ws := List.mem_filter.mpr ⟨List.mem_of_getElem? (i := 425) (by decide +kernel), by decide +kernel⟩
theorem tw_426 : (Jvm.Cond.static ({ cls := "GraphNamerLaw", name := "size", desc := "(LGraphNamer;I[J)I" } : Jvm.MethodName)) ∈ tm_ws := List.mem_filter.mpr ⟨List.mem_of_getElem? (i := 426) (by decide +kernel), by decide +kernel⟩
theorem tw_427 : (Jvm.Cond.codeWith ({ cls := "GraphNamerLaw", name := "size", desc := "(LGraphNamer;I[J)I" } : Jvm.MethodName) method_11_code (4 : Nat) (Option.some Jvm.ClassFile.FieldType.int) [((0 : Nat), (9 : Nat), (12 : Nat), (13 : Nat))]) ∈ tm_ws := List.mem_filter.mpr ⟨List.mem_of_getElem? (i := 427) (by decide +kernel), by decide +kernel⟩
theorem tw_428 : (Jvm.Cond.methodLink "GraphNamerLaw" (42 : Nat) ({ cls := "GraphNamer", name := "size", desc := "(I)I" } : Jvm.MethodName)) ∈ tm_ws := List.mem_filter.mpr ⟨List.mem_of_getElem? (i := 428) (by decide +kernel), by decide +kernel⟩
theorem tw_429 : (Jvm.Cond.instanceMethod ({ cls := "GraphNamer", name := "size", desc := "(I)I" } : Jvm.MethodName)) ∈ tm_ws := List.mem_filter.mpr ⟨List.mem_of_getElem? (i := 429) (by decide +kernel), by decide +kernel⟩
theorem tw_430 : (Jvm.Cond.selects "GraphNamer" ({ cls := "GraphNamer", name := "size", desc := "(I)I" } : Jvm.MethodName) ({ cls := "GraphNamer", name := "size", desc := "(I)I" } : Jvm.MethodName)) ∈ tm_ws := List.mem_filter.mpr ⟨List.mem_of_getElem? (i := 430) (by decide +kernel), by decide +kernel⟩
theorem tw_431 : (Jvm.Cond.code ({ cls := "GraphNamer", name := "size", desc := "(I)I" } : Jvm.MethodName) prog_1_method_10_code (2 : Nat) (Option.some Jvm.ClassFile.FieldType.int)) ∈ tm_ws := List.mem_filter.mpr ⟨List.mem_of_getElem? (i := 431) (by decide +kernel), by decide +kernel⟩
theorem tw_432 : (Jvm.Cond.methodLink "GraphNamerLaw" (123 : Nat) ({ cls := "GraphNamerLaw", name := "beside", desc := "(LGraphNamer;II[J)I" } : Jvm.MethodName)) ∈ tm_ws := List.mem_filter.mpr ⟨List.mem_of_getElem? (i := 432) (by decide +kernel), by decide +kernel⟩
theorem tw_433 : (Jvm.Cond.static ({ cls := "GraphNamerLaw", name := "beside", desc := "(LGraphNamer;II[J)I" } : Jvm.MethodName)) ∈ tm_ws := List.mem_filter.mpr ⟨List.mem_of_getElem? (i := 433) (by decide +kernel), by decide +kernel⟩
theorem tw_434 : (Jvm.Cond.codeWith ({ cls := "GraphNamerLaw", name := "beside", desc := "(LGraphNamer;II[J)I" } : Jvm.MethodName) method_12_code (5 : Nat) (Option.some Jvm.ClassFile.FieldType.int) [((0 : Nat), (10 : Nat), (13 : Nat), (13 : Nat))]) ∈ tm_ws := List.mem_filter.mpr ⟨List.mem_of_getElem? (i := 434) (by decide +kernel), by decide +kernel⟩
theorem tw_435 : (Jvm.Cond.methodLink "GraphNamerLaw" (45 : Nat) ({ cls := "GraphNamer", name := "beside", desc := "(II)I" } : Jvm.MethodName)) ∈ tm_ws := List.mem_filter.mpr ⟨List.mem_of_getElem? (i := 435) (by decide +kernel), by decide +kernel⟩
theorem tw_436 : (Jvm.Cond.instanceMethod ({ cls := "GraphNamer", name := "beside", desc := "(II)I" } : Jvm.MethodName)) ∈ tm_ws := List.mem_filter.mpr ⟨List.mem_of_getElem? (i := 436) (by decide +kernel), by decide +kernel⟩
theorem tw_437 : (Jvm.Cond.selects "GraphNamer" ({ cls := "GraphNamer", name := "beside", desc := "(II)I" } : Jvm.MethodName) ({ cls := "GraphNamer", name := "beside", desc := "(II)I" } : Jvm.MethodName)) ∈ tm_ws := List.mem_filter.mpr ⟨List.mem_of_getElem? (i := 437) (by decide +kernel), by decide +kernel⟩
theorem tw_438 : (Jvm.Cond.code ({ cls := "GraphNamer", name := "beside", desc := "(II)I" } : Jvm.MethodName) prog_1_method_11_code (3 : Nat) (Option.some Jvm.ClassFile.FieldType.int)) ∈ tm_ws := List.mem_filter.mpr ⟨List.mem_of_getElem? (i := 438) (by decide +kernel), by decide +kernel⟩
theorem tw_439 : (Jvm.Cond.methodLink "GraphNamerLaw" (126 : Nat) ({ cls := "GraphNamerLaw", name := "name", desc := "(LGraphNamer;I[J)I" } : Jvm.MethodName)) ∈ tm_ws := List.mem_filter.mpr ⟨List.mem_of_getElem? (i := 439) (by decide +kernel), by decide +kernel⟩
theorem tw_440 : (Jvm.Cond.static ({ cls := "GraphNamerLaw", name := "name", desc := "(LGraphNamer;I[J)I" } : Jvm.MethodName)) ∈ tm_ws := List.mem_filter.mpr ⟨List.mem_of_getElem? (i := 440) (by decide +kernel), by decide +kernel⟩
theorem tw_441 : (Jvm.Cond.codeWith ({ cls := "GraphNamerLaw", name := "name", desc := "(LGraphNamer;I[J)I" } : Jvm.MethodName) method_13_code (4 : Nat) (Option.some Jvm.ClassFile.FieldType.int) [((0 : Nat), (9 : Nat), (12 : Nat), (13 : Nat))]) ∈ tm_ws := List.mem_filter.mpr ⟨List.mem_of_getElem? (i := 441) (by decide +kernel), by decide +kernel⟩
theorem tw_442 : (Jvm.Cond.methodLink "GraphNamerLaw" (48 : Nat) ({ cls := "GraphNamer", name := "name", desc := "(I)I" } : Jvm.MethodName)) ∈ tm_ws := List.mem_filter.mpr ⟨List.mem_of_getElem? (i := 442) (by decide +kernel), by decide +kernel⟩
theorem tw_443 : (Jvm.Cond.instanceMethod ({ cls := "GraphNamer", name := "name", desc := "(I)I" } : Jvm.MethodName)) ∈ tm_ws := List.mem_filter.mpr ⟨List.mem_of_getElem? (i := 443) (by decide +kernel), by decide +kernel⟩
theorem tw_444 : (Jvm.Cond.selects "GraphNamer" ({ cls := "GraphNamer", name := "name", desc := "(I)I" } : Jvm.MethodName) ({ cls := "GraphNamer", name := "name", desc := "(I)I" } : Jvm.MethodName)) ∈ tm_ws := List.mem_filter.mpr ⟨List.mem_of_getElem? (i := 444) (by decide +kernel), by decide +kernel⟩
theorem tw_445 : (Jvm.Cond.code ({ cls := "GraphNamer", name := "name", desc := "(I)I" } : Jvm.MethodName) prog_1_method_12_code (2 : Nat) (Option.some Jvm.ClassFile.FieldType.int)) ∈ tm_ws := List.mem_filter.mpr ⟨List.mem_of_getElem? (i := 445) (by decide +kernel), by decide +kernel⟩
theorem tw_446 : (Jvm.Cond.methodLink "GraphNamerLaw" (129 : Nat) ({ cls := "GraphNamerLaw", name := "place", desc := "(LGraphNamer;II[J)I" } : Jvm.MethodName)) ∈ tm_ws := List.mem_filter.mpr ⟨List.mem_of_getElem? (i := 446) (by decide +kernel), by decide +kernel⟩
theorem tw_447 : (Jvm.Cond.static ({ cls := "GraphNamerLaw", name := "place", desc := "(LGraphNamer;II[J)I" } : Jvm.MethodName)) ∈ tm_ws := List.mem_filter.mpr ⟨List.mem_of_getElem? (i := 447) (by decide +kernel), by decide +kernel⟩
theorem tw_448 : (Jvm.Cond.codeWith ({ cls := "GraphNamerLaw", name := "place", desc := "(LGraphNamer;II[J)I" } : Jvm.MethodName) method_14_code (5 : Nat) (Option.some Jvm.ClassFile.FieldType.int) [((0 : Nat), (10 : Nat), (13 : Nat), (13 : Nat))]) ∈ tm_ws := List.mem_filter.mpr ⟨List.mem_of_getElem? (i := 448) (by decide +kernel), by decide +kernel⟩
theorem tw_449 : (Jvm.Cond.methodLink "GraphNamerLaw" (51 : Nat) ({ cls := "GraphNamer", name := "place", desc := "(II)I" } : Jvm.MethodName)) ∈ tm_ws := List.mem_filter.mpr ⟨List.mem_of_getElem? (i := 449) (by decide +kernel), by decide +kernel⟩
theorem tw_450 : (Jvm.Cond.instanceMethod ({ cls := "GraphNamer", name := "place", desc := "(II)I" } : Jvm.MethodName)) ∈ tm_ws := List.mem_filter.mpr ⟨List.mem_of_getElem? (i := 450) (by decide +kernel), by decide +kernel⟩
theorem tw_451 : (Jvm.Cond.selects "GraphNamer" ({ cls := "GraphNamer", name := "place", desc := "(II)I" } : Jvm.MethodName) ({ cls := "GraphNamer", name := "place", desc := "(II)I" } : Jvm.MethodName)) ∈ tm_ws := List.mem_filter.mpr ⟨List.mem_of_getElem? (i := 451) (by decide +kernel), by decide +kernel⟩
theorem tw_452 : (Jvm.Cond.code ({ cls := "GraphNamer", name := "place", desc := "(II)I" } : Jvm.MethodName) prog_1_method_13_code (3 : Nat) (Option.some Jvm.ClassFile.FieldType.int)) ∈ tm_ws := List.mem_filter.mpr ⟨List.mem_of_getElem? (i := 452) (by decide +kernel), by decide +kernel⟩
theorem tw_453 : (Jvm.Cond.methodLink "GraphNamerLaw" (132 : Nat) ({ cls := "GraphNamerLaw", name := "automorphisms", desc := "(LGraphNamer;I[J)I" } : Jvm.MethodName)) ∈ tm_ws := List.mem_filter.mpr ⟨List.mem_of_getElem? (i := 453) (by decide +kernel), by decide +kernel⟩
theorem tw_454 : (Jvm.Cond.static ({ cls := "GraphNamerLaw", name := "automorphisms", desc := "(LGraphNamer;I[J)I" } : Jvm.MethodName)) ∈ tm_ws := List.mem_filter.mpr ⟨List.mem_of_getElem? (i := 454) (by decide +kernel), by decide +kernel⟩
theorem tw_455 : (Jvm.Cond.codeWith ({ cls := "GraphNamerLaw", name := "automorphisms", desc := "(LGraphNamer;I[J)I" } : Jvm.MethodName) method_15_code (4 : Nat) (Option.some Jvm.ClassFile.FieldType.int) [((0 : Nat), (9 : Nat), (12 : Nat), (13 : Nat))]) ∈ tm_ws := List.mem_filter.mpr ⟨List.mem_of_getElem? (i := 455) (by decide +kernel), by decide +kernel⟩
theorem tw_456 : (Jvm.Cond.methodLink "GraphNamerLaw" (54 : Nat) ({ cls := "GraphNamer", name := "automorphisms", desc := "(I)I" } : Jvm.MethodName)) ∈ tm_ws := List.mem_filter.mpr ⟨List.mem_of_getElem? (i := 456) (by decide +kernel), by decide +kernel⟩
theorem tw_457 : (Jvm.Cond.instanceMethod ({ cls := "GraphNamer", name := "automorphisms", desc := "(I)I" } : Jvm.MethodName)) ∈ tm_ws := List.mem_filter.mpr ⟨List.mem_of_getElem? (i := 457) (by decide +kernel), by decide +kernel⟩
theorem tw_458 : (Jvm.Cond.selects "GraphNamer" ({ cls := "GraphNamer", name := "automorphisms", desc := "(I)I" } : Jvm.MethodName) ({ cls := "GraphNamer", name := "automorphisms", desc := "(I)I" } : Jvm.MethodName)) ∈ tm_ws := List.mem_filter.mpr ⟨List.mem_of_getElem? (i := 458) (by decide +kernel), by decide +kernel⟩
theorem tw_459 : (Jvm.Cond.code ({ cls := "GraphNamer", name := "automorphisms", desc := "(I)I" } : Jvm.MethodName) prog_1_method_14_code (2 : Nat) (Option.some Jvm.ClassFile.FieldType.int)) ∈ tm_ws := List.mem_filter.mpr ⟨List.mem_of_getElem? (i := 459) (by decide +kernel), by decide +kernel⟩
theorem tw_460 : (Jvm.Cond.methodLink "GraphNamer" (121 : Nat) ({ cls := "GraphNamer$Laying", name := "number", desc := "(LGraphNamer$Graph;I)I" } : Jvm.MethodName)) ∈ tm_ws := List.mem_filter.mpr ⟨List.mem_of_getElem? (i := 460) (by decide +kernel), by decide +kernel⟩
theorem tw_461 : (Jvm.Cond.instanceMethod ({ cls := "GraphNamer$Laying", name := "number", desc := "(LGraphNamer$Graph;I)I" } : Jvm.MethodName)) ∈ tm_ws := List.mem_filter.mpr ⟨List.mem_of_getElem? (i := 461) (by decide +kernel), by decide +kernel⟩
theorem tw_462 : (Jvm.Cond.selects "GraphNamer$Laying" ({ cls := "GraphNamer$Laying", name := "number", desc := "(LGraphNamer$Graph;I)I" } : Jvm.MethodName) ({ cls := "GraphNamer$Laying", name := "number", desc := "(LGraphNamer$Graph;I)I" } : Jvm.MethodName)) ∈ tm_ws := List.mem_filter.mpr ⟨List.mem_of_getElem? (i := 462) (by decide +kernel), by decide +kernel⟩
theorem tw_463 : (Jvm.Cond.code ({ cls := "GraphNamer$Laying", name := "number", desc := "(LGraphNamer$Graph;I)I" } : Jvm.MethodName) prog_3_method_2_code (6 : Nat) (Option.some Jvm.ClassFile.FieldType.int)) ∈ tm_ws := List.mem_filter.mpr ⟨List.mem_of_getElem? (i := 463) (by decide +kernel), by decide +kernel⟩
theorem tw_464 : (Jvm.Cond.methodLink "GraphNamer$Laying" (21 : Nat) ({ cls := "GraphNamer$Laying", name := "reach", desc := "(LGraphNamer$Graph;II)I" } : Jvm.MethodName)) ∈ tm_ws := List.mem_filter.mpr ⟨List.mem_of_getElem? (i := 464) (by decide +kernel), by decide +kernel⟩
theorem tw_465 : (Jvm.Cond.instanceMethod ({ cls := "GraphNamer$Laying", name := "reach", desc := "(LGraphNamer$Graph;II)I" } : Jvm.MethodName)) ∈ tm_ws := List.mem_filter.mpr ⟨List.mem_of_getElem? (i := 465) (by decide +kernel), by decide +kernel⟩
theorem tw_466 : (Jvm.Cond.selects "GraphNamer$Laying" ({ cls := "GraphNamer$Laying", name := "reach", desc := "(LGraphNamer$Graph;II)I" } : Jvm.MethodName) ({ cls := "GraphNamer$Laying", name := "reach", desc := "(LGraphNamer$Graph;II)I" } : Jvm.MethodName)) ∈ tm_ws := List.mem_filter.mpr ⟨List.mem_of_getElem? (i := 466) (by decide +kernel), by decide +kernel⟩
theorem tw_467 : (Jvm.Cond.code ({ cls := "GraphNamer$Laying", name := "reach", desc := "(LGraphNamer$Graph;II)I" } : Jvm.MethodName) prog_3_method_3_code (6 : Nat) (Option.some Jvm.ClassFile.FieldType.int)) ∈ tm_ws := List.mem_filter.mpr ⟨List.mem_of_getElem? (i := 467) (by decide +kernel), by decide +kernel⟩
theorem tw_468 : (Jvm.Cond.methodLink "GraphNamer$Laying" (31 : Nat) ({ cls := "GraphNamer$Laying", name := "carries", desc := "(LGraphNamer$Graph;III)Z" } : Jvm.MethodName)) ∈ tm_ws := List.mem_filter.mpr ⟨List.mem_of_getElem? (i := 468) (by decide +kernel), by decide +kernel⟩
theorem tw_469 : (Jvm.Cond.instanceMethod ({ cls := "GraphNamer$Laying", name := "carries", desc := "(LGraphNamer$Graph;III)Z" } : Jvm.MethodName)) ∈ tm_ws := List.mem_filter.mpr ⟨List.mem_of_getElem? (i := 469) (by decide +kernel), by decide +kernel⟩
theorem tw_470 : (Jvm.Cond.selects "GraphNamer$Laying" ({ cls := "GraphNamer$Laying", name := "carries", desc := "(LGraphNamer$Graph;III)Z" } : Jvm.MethodName) ({ cls := "GraphNamer$Laying", name := "carries", desc := "(LGraphNamer$Graph;III)Z" } : Jvm.MethodName)) ∈ tm_ws := List.mem_filter.mpr ⟨List.mem_of_getElem? (i := 470) (by decide +kernel), by decide +kernel⟩
theorem tw_471 : (Jvm.Cond.code ({ cls := "GraphNamer$Laying", name := "carries", desc := "(LGraphNamer$Graph;III)Z" } : Jvm.MethodName) prog_3_method_4_code (6 : Nat) (Option.some Jvm.ClassFile.FieldType.boolean)) ∈ tm_ws := List.mem_filter.mpr ⟨List.mem_of_getElem? (i := 471) (by decide +kernel), by decide +kernel⟩
theorem tw_472 : (Jvm.Cond.methodLinkNest "GraphNamer$Laying" (35 : Nat) ({ cls := "GraphNamer", name := "contains", desc := "(II)Z" } : Jvm.MethodName) "GraphNamer") ∈ tm_ws := List.mem_filter.mpr ⟨List.mem_of_getElem? (i := 472) (by decide +kernel), by decide +kernel⟩
theorem tw_473 : (Jvm.Cond.methodLink "GraphNamer$Laying" (39 : Nat) ({ cls := "GraphNamer$Laying", name := "fits", desc := "(LGraphNamer$Graph;III)Z" } : Jvm.MethodName)) ∈ tm_ws := List.mem_filter.mpr ⟨List.mem_of_getElem? (i := 473) (by decide +kernel), by decide +kernel⟩
theorem tw_475 : (Jvm.Cond.instanceMethod ({ cls := "GraphNamer$Laying", name := "fits", desc := "(LGraphNamer$Graph;III)Z" } : Jvm.MethodName)) ∈ tm_ws := List.mem_filter.mpr ⟨List.mem_of_getElem? (i := 475) (by decide +kernel), by decide +kernel⟩
theorem tw_476 : (Jvm.Cond.code ({ cls := "GraphNamer$Laying", name := "fits", desc := "(LGraphNamer$Graph;III)Z" } : Jvm.MethodName) prog_3_method_6_code (6 : Nat) (Option.some Jvm.ClassFile.FieldType.boolean)) ∈ tm_ws := List.mem_filter.mpr ⟨List.mem_of_getElem? (i := 476) (by decide +kernel), by decide +kernel⟩
theorem tw_477 : (Jvm.Cond.methodLink "GraphNamer$Laying" (48 : Nat) ({ cls := "GraphNamer$Graph", name := "degree", desc := "(I)I" } : Jvm.MethodName)) ∈ tm_ws := List.mem_filter.mpr ⟨List.mem_of_getElem? (i := 477) (by decide +kernel), by decide +kernel⟩
theorem tw_478 : (Jvm.Cond.methodLink "GraphNamer$Laying" (51 : Nat) ({ cls := "GraphNamer$Graph", name := "linked", desc := "(II)Z" } : Jvm.MethodName)) ∈ tm_ws := List.mem_filter.mpr ⟨List.mem_of_getElem? (i := 478) (by decide +kernel), by decide +kernel⟩
theorem tw_479 : (Jvm.Cond.methodLink "GraphNamer$Laying" (42 : Nat) ({ cls := "GraphNamer$Laying", name := "canGoOn", desc := "(LGraphNamer$Graph;III)Z" } : Jvm.MethodName)) ∈ tm_ws := List.mem_filter.mpr ⟨List.mem_of_getElem? (i := 479) (by decide +kernel), by decide +kernel⟩
theorem tw_481 : (Jvm.Cond.instanceMethod ({ cls := "GraphNamer$Laying", name := "canGoOn", desc := "(LGraphNamer$Graph;III)Z" } : Jvm.MethodName)) ∈ tm_ws := List.mem_filter.mpr ⟨List.mem_of_getElem? (i := 481) (by decide +kernel), by decide +kernel⟩
theorem tw_482 : (Jvm.Cond.code ({ cls := "GraphNamer$Laying", name := "canGoOn", desc := "(LGraphNamer$Graph;III)Z" } : Jvm.MethodName) prog_3_method_5_code (6 : Nat) (Option.some Jvm.ClassFile.FieldType.boolean)) ∈ tm_ws := List.mem_filter.mpr ⟨List.mem_of_getElem? (i := 482) (by decide +kernel), by decide +kernel⟩
theorem tw_483 : (Jvm.Cond.methodLink "GraphNamer$Laying" (25 : Nat) ({ cls := "java/lang/Integer", name := "bitCount", desc := "(I)I" } : Jvm.MethodName)) ∈ tm_ws := List.mem_filter.mpr ⟨List.mem_of_getElem? (i := 483) (by decide +kernel), by decide +kernel⟩
theorem tw_484 : (Jvm.Cond.methodLink "GraphNamerLaw" (135 : Nat) ({ cls := "GraphNamerLaw", name := "fixing", desc := "(LGraphNamer;II[J)I" } : Jvm.MethodName)) ∈ tm_ws := List.mem_filter.mpr ⟨List.mem_of_getElem? (i := 484) (by decide +kernel), by decide +kernel⟩
theorem tw_485 : (Jvm.Cond.static ({ cls := "GraphNamerLaw", name := "fixing", desc := "(LGraphNamer;II[J)I" } : Jvm.MethodName)) ∈ tm_ws := List.mem_filter.mpr ⟨List.mem_of_getElem? (i := 485) (by decide +kernel), by decide +kernel⟩
theorem tw_486 : (Jvm.Cond.codeWith ({ cls := "GraphNamerLaw", name := "fixing", desc := "(LGraphNamer;II[J)I" } : Jvm.MethodName) method_16_code (5 : Nat) (Option.some Jvm.ClassFile.FieldType.int) [((0 : Nat), (10 : Nat), (13 : Nat), (13 : Nat))]) ∈ tm_ws := List.mem_filter.mpr ⟨List.mem_of_getElem? (i := 486) (by decide +kernel), by decide +kernel⟩
theorem tw_487 : (Jvm.Cond.methodLink "GraphNamerLaw" (57 : Nat) ({ cls := "GraphNamer", name := "fixing", desc := "(II)I" } : Jvm.MethodName)) ∈ tm_ws := List.mem_filter.mpr ⟨List.mem_of_getElem? (i := 487) (by decide +kernel), by decide +kernel⟩
theorem tw_488 : (Jvm.Cond.instanceMethod ({ cls := "GraphNamer", name := "fixing", desc := "(II)I" } : Jvm.MethodName)) ∈ tm_ws := List.mem_filter.mpr ⟨List.mem_of_getElem? (i := 488) (by decide +kernel), by decide +kernel⟩
theorem tw_489 : (Jvm.Cond.selects "GraphNamer" ({ cls := "GraphNamer", name := "fixing", desc := "(II)I" } : Jvm.MethodName) ({ cls := "GraphNamer", name := "fixing", desc := "(II)I" } : Jvm.MethodName)) ∈ tm_ws := List.mem_filter.mpr ⟨List.mem_of_getElem? (i := 489) (by decide +kernel), by decide +kernel⟩
theorem tw_490 : (Jvm.Cond.code ({ cls := "GraphNamer", name := "fixing", desc := "(II)I" } : Jvm.MethodName) prog_1_method_15_code (4 : Nat) (Option.some Jvm.ClassFile.FieldType.int)) ∈ tm_ws := List.mem_filter.mpr ⟨List.mem_of_getElem? (i := 490) (by decide +kernel), by decide +kernel⟩
theorem tw_491 : (Jvm.Cond.methodLink "GraphNamer" (125 : Nat) ({ cls := "GraphNamer", name := "needSet", desc := "(LGraphNamer$Graph;I)V" } : Jvm.MethodName)) ∈ tm_ws := List.mem_filter.mpr ⟨List.mem_of_getElem? (i := 491) (by decide +kernel), by decide +kernel⟩
theorem tw_492 : (Jvm.Cond.static ({ cls := "GraphNamer", name := "needSet", desc := "(LGraphNamer$Graph;I)V" } : Jvm.MethodName)) ∈ tm_ws := List.mem_filter.mpr ⟨List.mem_of_getElem? (i := 492) (by decide +kernel), by decide +kernel⟩
theorem tw_493 : (Jvm.Cond.code ({ cls := "GraphNamer", name := "needSet", desc := "(LGraphNamer$Graph;I)V" } : Jvm.MethodName) prog_1_method_27_code (2 : Nat) (Option.none : Option Jvm.ClassFile.FieldType)) ∈ tm_ws := List.mem_filter.mpr ⟨List.mem_of_getElem? (i := 493) (by decide +kernel), by decide +kernel⟩
theorem tw_495 : (Jvm.Cond.methodLink "GraphNamerLaw" (138 : Nat) ({ cls := "GraphNamerLaw", name := "orbit", desc := "(LGraphNamer;II[J)I" } : Jvm.MethodName)) ∈ tm_ws := List.mem_filter.mpr ⟨List.mem_of_getElem? (i := 495) (by decide +kernel), by decide +kernel⟩
theorem tw_496 : (Jvm.Cond.static ({ cls := "GraphNamerLaw", name := "orbit", desc := "(LGraphNamer;II[J)I" } : Jvm.MethodName)) ∈ tm_ws := List.mem_filter.mpr ⟨List.mem_of_getElem? (i := 496) (by decide +kernel), by decide +kernel⟩
theorem tw_497 : (Jvm.Cond.codeWith ({ cls := "GraphNamerLaw", name := "orbit", desc := "(LGraphNamer;II[J)I" } : Jvm.MethodName) method_17_code (5 : Nat) (Option.some Jvm.ClassFile.FieldType.int) [((0 : Nat), (10 : Nat), (13 : Nat), (13 : Nat))]) ∈ tm_ws := List.mem_filter.mpr ⟨List.mem_of_getElem? (i := 497) (by decide +kernel), by decide +kernel⟩
theorem tw_498 : (Jvm.Cond.methodLink "GraphNamerLaw" (60 : Nat) ({ cls := "GraphNamer", name := "orbit", desc := "(II)I" } : Jvm.MethodName)) ∈ tm_ws := List.mem_filter.mpr ⟨List.mem_of_getElem? (i := 498) (by decide +kernel), by decide +kernel⟩
theorem tw_499 : (Jvm.Cond.instanceMethod ({ cls := "GraphNamer", name := "orbit", desc := "(II)I" } : Jvm.MethodName)) ∈ tm_ws := List.mem_filter.mpr ⟨List.mem_of_getElem? (i := 499) (by decide +kernel), by decide +kernel⟩
theorem tw_500 : (Jvm.Cond.selects "GraphNamer" ({ cls := "GraphNamer", name := "orbit", desc := "(II)I" } : Jvm.MethodName) ({ cls := "GraphNamer", name := "orbit", desc := "(II)I" } : Jvm.MethodName)) ∈ tm_ws := List.mem_filter.mpr ⟨List.mem_of_getElem? (i := 500) (by decide +kernel), by decide +kernel⟩
theorem tw_501 : (Jvm.Cond.code ({ cls := "GraphNamer", name := "orbit", desc := "(II)I" } : Jvm.MethodName) prog_1_method_16_code (3 : Nat) (Option.some Jvm.ClassFile.FieldType.int)) ∈ tm_ws := List.mem_filter.mpr ⟨List.mem_of_getElem? (i := 501) (by decide +kernel), by decide +kernel⟩
theorem tw_502 : (Jvm.Cond.methodLink "GraphNamer" (129 : Nat) ({ cls := "GraphNamer$Laying", name := "reach", desc := "(LGraphNamer$Graph;II)I" } : Jvm.MethodName)) ∈ tm_ws := List.mem_filter.mpr ⟨List.mem_of_getElem? (i := 502) (by decide +kernel), by decide +kernel⟩
theorem tw_503 : (Jvm.Cond.methodLink "GraphNamerLaw" (141 : Nat) ({ cls := "GraphNamerLaw", name := "orbits", desc := "(LGraphNamer;I[J)I" } : Jvm.MethodName)) ∈ tm_ws := List.mem_filter.mpr ⟨List.mem_of_getElem? (i := 503) (by decide +kernel), by decide +kernel⟩
theorem tw_504 : (Jvm.Cond.static ({ cls := "GraphNamerLaw", name := "orbits", desc := "(LGraphNamer;I[J)I" } : Jvm.MethodName)) ∈ tm_ws := List.mem_filter.mpr ⟨List.mem_of_getElem? (i := 504) (by decide +kernel), by decide +kernel⟩
theorem tw_505 : (Jvm.Cond.codeWith ({ cls := "GraphNamerLaw", name := "orbits", desc := "(LGraphNamer;I[J)I" } : Jvm.MethodName) method_18_code (4 : Nat) (Option.some Jvm.ClassFile.FieldType.int) [((0 : Nat), (9 : Nat), (12 : Nat), (13 : Nat))]) ∈ tm_ws := List.mem_filter.mpr ⟨List.mem_of_getElem? (i := 505) (by decide +kernel), by decide +kernel⟩
theorem tw_506 : (Jvm.Cond.methodLink "GraphNamerLaw" (63 : Nat) ({ cls := "GraphNamer", name := "orbits", desc := "(I)I" } : Jvm.MethodName)) ∈ tm_ws := List.mem_filter.mpr ⟨List.mem_of_getElem? (i := 506) (by decide +kernel), by decide +kernel⟩
theorem tw_507 : (Jvm.Cond.instanceMethod ({ cls := "GraphNamer", name := "orbits", desc := "(I)I" } : Jvm.MethodName)) ∈ tm_ws := List.mem_filter.mpr ⟨List.mem_of_getElem? (i := 507) (by decide +kernel), by decide +kernel⟩
theorem tw_508 : (Jvm.Cond.selects "GraphNamer" ({ cls := "GraphNamer", name := "orbits", desc := "(I)I" } : Jvm.MethodName) ({ cls := "GraphNamer", name := "orbits", desc := "(I)I" } : Jvm.MethodName)) ∈ tm_ws := List.mem_filter.mpr ⟨List.mem_of_getElem? (i := 508) (by decide +kernel), by decide +kernel⟩
theorem tw_509 : (Jvm.Cond.code ({ cls := "GraphNamer", name := "orbits", desc := "(I)I" } : Jvm.MethodName) prog_1_method_17_code (6 : Nat) (Option.some Jvm.ClassFile.FieldType.int)) ∈ tm_ws := List.mem_filter.mpr ⟨List.mem_of_getElem? (i := 509) (by decide +kernel), by decide +kernel⟩
theorem tw_510 : (Jvm.Cond.methodLink "GraphNamer" (133 : Nat) ({ cls := "GraphNamer", name := "contains", desc := "(II)Z" } : Jvm.MethodName)) ∈ tm_ws := List.mem_filter.mpr ⟨List.mem_of_getElem? (i := 510) (by decide +kernel), by decide +kernel⟩
theorem tw_511 : (Jvm.Cond.methodLink "GraphNamerLaw" (144 : Nat) ({ cls := "GraphNamerLaw", name := "cell", desc := "(LGraphNamer;II[J)I" } : Jvm.MethodName)) ∈ tm_ws := List.mem_filter.mpr ⟨List.mem_of_getElem? (i := 511) (by decide +kernel), by decide +kernel⟩
theorem tw_512 : (Jvm.Cond.static ({ cls := "GraphNamerLaw", name := "cell", desc := "(LGraphNamer;II[J)I" } : Jvm.MethodName)) ∈ tm_ws := List.mem_filter.mpr ⟨List.mem_of_getElem? (i := 512) (by decide +kernel), by decide +kernel⟩
theorem tw_513 : (Jvm.Cond.codeWith ({ cls := "GraphNamerLaw", name := "cell", desc := "(LGraphNamer;II[J)I" } : Jvm.MethodName) method_19_code (5 : Nat) (Option.some Jvm.ClassFile.FieldType.int) [((0 : Nat), (10 : Nat), (13 : Nat), (13 : Nat))]) ∈ tm_ws := List.mem_filter.mpr ⟨List.mem_of_getElem? (i := 513) (by decide +kernel), by decide +kernel⟩
theorem tw_514 : (Jvm.Cond.methodLink "GraphNamerLaw" (66 : Nat) ({ cls := "GraphNamer", name := "cell", desc := "(II)I" } : Jvm.MethodName)) ∈ tm_ws := List.mem_filter.mpr ⟨List.mem_of_getElem? (i := 514) (by decide +kernel), by decide +kernel⟩
theorem tw_515 : (Jvm.Cond.instanceMethod ({ cls := "GraphNamer", name := "cell", desc := "(II)I" } : Jvm.MethodName)) ∈ tm_ws := List.mem_filter.mpr ⟨List.mem_of_getElem? (i := 515) (by decide +kernel), by decide +kernel⟩
theorem tw_516 : (Jvm.Cond.selects "GraphNamer" ({ cls := "GraphNamer", name := "cell", desc := "(II)I" } : Jvm.MethodName) ({ cls := "GraphNamer", name := "cell", desc := "(II)I" } : Jvm.MethodName)) ∈ tm_ws := List.mem_filter.mpr ⟨List.mem_of_getElem? (i := 516) (by decide +kernel), by decide +kernel⟩
theorem tw_517 : (Jvm.Cond.code ({ cls := "GraphNamer", name := "cell", desc := "(II)I" } : Jvm.MethodName) prog_1_method_18_code (3 : Nat) (Option.some Jvm.ClassFile.FieldType.int)) ∈ tm_ws := List.mem_filter.mpr ⟨List.mem_of_getElem? (i := 517) (by decide +kernel), by decide +kernel⟩
theorem tw_518 : (Jvm.Cond.methodLink "GraphNamer" (136 : Nat) ({ cls := "GraphNamer$Parting", name := "find", desc := "(LGraphNamer$Graph;)V" } : Jvm.MethodName)) ∈ tm_ws := List.mem_filter.mpr ⟨List.mem_of_getElem? (i := 518) (by decide +kernel), by decide +kernel⟩
theorem tw_519 : (Jvm.Cond.instanceMethod ({ cls := "GraphNamer$Parting", name := "find", desc := "(LGraphNamer$Graph;)V" } : Jvm.MethodName)) ∈ tm_ws := List.mem_filter.mpr ⟨List.mem_of_getElem? (i := 519) (by decide +kernel), by decide +kernel⟩
theorem tw_520 : (Jvm.Cond.selects "GraphNamer$Parting" ({ cls := "GraphNamer$Parting", name := "find", desc := "(LGraphNamer$Graph;)V" } : Jvm.MethodName) ({ cls := "GraphNamer$Parting", name := "find", desc := "(LGraphNamer$Graph;)V" } : Jvm.MethodName)) ∈ tm_ws := List.mem_filter.mpr ⟨List.mem_of_getElem? (i := 520) (by decide +kernel), by decide +kernel⟩
theorem tw_521 : (Jvm.Cond.code ({ cls := "GraphNamer$Parting", name := "find", desc := "(LGraphNamer$Graph;)V" } : Jvm.MethodName) prog_5_method_2_code (4 : Nat) (Option.none : Option Jvm.ClassFile.FieldType)) ∈ tm_ws := List.mem_filter.mpr ⟨List.mem_of_getElem? (i := 521) (by decide +kernel), by decide +kernel⟩
theorem tw_522 : (Jvm.Cond.methodLink "GraphNamer$Parting" (27 : Nat) ({ cls := "GraphNamer$Graph", name := "coloured", desc := "(I)I" } : Jvm.MethodName)) ∈ tm_ws := List.mem_filter.mpr ⟨List.mem_of_getElem? (i := 522) (by decide +kernel), by decide +kernel⟩
theorem tw_523 : (Jvm.Cond.methodLink "GraphNamer$Parting" (31 : Nat) ({ cls := "GraphNamer$Parting", name := "refine", desc := "(LGraphNamer$Graph;)Z" } : Jvm.MethodName)) ∈ tm_ws := List.mem_filter.mpr ⟨List.mem_of_getElem? (i := 523) (by decide +kernel), by decide +kernel⟩
theorem tw_525 : (Jvm.Cond.instanceMethod ({ cls := "GraphNamer$Parting", name := "refine", desc := "(LGraphNamer$Graph;)Z" } : Jvm.MethodName)) ∈ tm_ws := List.mem_filter.mpr ⟨List.mem_of_getElem? (i := 525) (by decide +kernel), by decide +kernel⟩
theorem tw_526 : (Jvm.Cond.code ({ cls := "GraphNamer$Parting", name := "refine", desc := "(LGraphNamer$Graph;)Z" } : Jvm.MethodName) prog_5_method_3_code (4 : Nat) (Option.some Jvm.ClassFile.FieldType.boolean)) ∈ tm_ws := List.mem_filter.mpr ⟨List.mem_of_getElem? (i := 526) (by decide +kernel), by decide +kernel⟩
theorem tw_527 : (Jvm.Cond.methodLink "GraphNamer$Parting" (35 : Nat) ({ cls := "GraphNamer$Parting", name := "agreeing", desc := "(LGraphNamer$Graph;I)I" } : Jvm.MethodName)) ∈ tm_ws := List.mem_filter.mpr ⟨List.mem_of_getElem? (i := 527) (by decide +kernel), by decide +kernel⟩
theorem tw_529 : (Jvm.Cond.instanceMethod ({ cls := "GraphNamer$Parting", name := "agreeing", desc := "(LGraphNamer$Graph;I)I" } : Jvm.MethodName)) ∈ tm_ws := List.mem_filter.mpr ⟨List.mem_of_getElem? (i := 529) (by decide +kernel), by decide +kernel⟩
theorem tw_530 : (Jvm.Cond.code ({ cls := "GraphNamer$Parting", name := "agreeing", desc := "(LGraphNamer$Graph;I)I" } : Jvm.MethodName) prog_5_method_4_code (5 : Nat) (Option.some Jvm.ClassFile.FieldType.int)) ∈ tm_ws := List.mem_filter.mpr ⟨List.mem_of_getElem? (i := 530) (by decide +kernel), by decide +kernel⟩
theorem tw_531 : (Jvm.Cond.methodLinkNest "GraphNamer$Parting" (39 : Nat) ({ cls := "GraphNamer", name := "contains", desc := "(II)Z" } : Jvm.MethodName) "GraphNamer") ∈ tm_ws := List.mem_filter.mpr ⟨List.mem_of_getElem? (i := 531) (by decide +kernel), by decide +kernel⟩
theorem tw_532 : (Jvm.Cond.methodLink "GraphNamer$Parting" (43 : Nat) ({ cls := "GraphNamer$Parting", name := "agree", desc := "(LGraphNamer$Graph;II)Z" } : Jvm.MethodName)) ∈ tm_ws := List.mem_filter.mpr ⟨List.mem_of_getElem? (i := 532) (by decide +kernel), by decide +kernel⟩
theorem tw_534 : (Jvm.Cond.instanceMethod ({ cls := "GraphNamer$Parting", name := "agree", desc := "(LGraphNamer$Graph;II)Z" } : Jvm.MethodName)) ∈ tm_ws := List.mem_filter.mpr ⟨List.mem_of_getElem? (i := 534) (by decide +kernel), by decide +kernel⟩
theorem tw_535 : (Jvm.Cond.code ({ cls := "GraphNamer$Parting", name := "agree", desc := "(LGraphNamer$Graph;II)Z" } : Jvm.MethodName) prog_5_method_5_code (7 : Nat) (Option.some Jvm.ClassFile.FieldType.boolean)) ∈ tm_ws := List.mem_filter.mpr ⟨List.mem_of_getElem? (i := 535) (by decide +kernel), by decide +kernel⟩
theorem tw_536 : (Jvm.Cond.methodLink "GraphNamer$Parting" (50 : Nat) ({ cls := "java/lang/Integer", name := "bitCount", desc := "(I)I" } : Jvm.MethodName)) ∈ tm_ws := List.mem_filter.mpr ⟨List.mem_of_getElem? (i := 536) (by decide +kernel), by decide +kernel⟩
theorem tw_537 : (Jvm.Cond.methodLink "GraphNamerLaw" (147 : Nat) ({ cls := "GraphNamerLaw", name := "cells", desc := "(LGraphNamer;I[J)I" } : Jvm.MethodName)) ∈ tm_ws := List.mem_filter.mpr ⟨List.mem_of_getElem? (i := 537) (by decide +kernel), by decide +kernel⟩
theorem tw_538 : (Jvm.Cond.static ({ cls := "GraphNamerLaw", name := "cells", desc := "(LGraphNamer;I[J)I" } : Jvm.MethodName)) ∈ tm_ws := List.mem_filter.mpr ⟨List.mem_of_getElem? (i := 538) (by decide +kernel), by decide +kernel⟩
theorem tw_539 : (Jvm.Cond.codeWith ({ cls := "GraphNamerLaw", name := "cells", desc := "(LGraphNamer;I[J)I" } : Jvm.MethodName) method_20_code (4 : Nat) (Option.some Jvm.ClassFile.FieldType.int) [((0 : Nat), (9 : Nat), (12 : Nat), (13 : Nat))]) ∈ tm_ws := List.mem_filter.mpr ⟨List.mem_of_getElem? (i := 539) (by decide +kernel), by decide +kernel⟩
theorem tw_540 : (Jvm.Cond.methodLink "GraphNamerLaw" (69 : Nat) ({ cls := "GraphNamer", name := "cells", desc := "(I)I" } : Jvm.MethodName)) ∈ tm_ws := List.mem_filter.mpr ⟨List.mem_of_getElem? (i := 540) (by decide +kernel), by decide +kernel⟩
theorem tw_541 : (Jvm.Cond.instanceMethod ({ cls := "GraphNamer", name := "cells", desc := "(I)I" } : Jvm.MethodName)) ∈ tm_ws := List.mem_filter.mpr ⟨List.mem_of_getElem? (i := 541) (by decide +kernel), by decide +kernel⟩
theorem tw_542 : (Jvm.Cond.selects "GraphNamer" ({ cls := "GraphNamer", name := "cells", desc := "(I)I" } : Jvm.MethodName) ({ cls := "GraphNamer", name := "cells", desc := "(I)I" } : Jvm.MethodName)) ∈ tm_ws := List.mem_filter.mpr ⟨List.mem_of_getElem? (i := 542) (by decide +kernel), by decide +kernel⟩
theorem tw_543 : (Jvm.Cond.code ({ cls := "GraphNamer", name := "cells", desc := "(I)I" } : Jvm.MethodName) prog_1_method_19_code (5 : Nat) (Option.some Jvm.ClassFile.FieldType.int)) ∈ tm_ws := List.mem_filter.mpr ⟨List.mem_of_getElem? (i := 543) (by decide +kernel), by decide +kernel⟩
theorem tw_544 : (Jvm.Cond.methodLink "GraphNamer" (140 : Nat) ({ cls := "GraphNamer", name := "isLeast", desc := "(II)Z" } : Jvm.MethodName)) ∈ tm_ws := List.mem_filter.mpr ⟨List.mem_of_getElem? (i := 544) (by decide +kernel), by decide +kernel⟩
theorem tw_545 : (Jvm.Cond.static ({ cls := "GraphNamer", name := "isLeast", desc := "(II)Z" } : Jvm.MethodName)) ∈ tm_ws := List.mem_filter.mpr ⟨List.mem_of_getElem? (i := 545) (by decide +kernel), by decide +kernel⟩
theorem tw_546 : (Jvm.Cond.code ({ cls := "GraphNamer", name := "isLeast", desc := "(II)Z" } : Jvm.MethodName) prog_1_method_31_code (2 : Nat) (Option.some Jvm.ClassFile.FieldType.boolean)) ∈ tm_ws := List.mem_filter.mpr ⟨List.mem_of_getElem? (i := 546) (by decide +kernel), by decide +kernel⟩
theorem tw_547 : (Jvm.Cond.methodLink "GraphNamerLaw" (150 : Nat) ({ cls := "GraphNamerLaw", name := "same", desc := "(LGraphNamer;II[J)I" } : Jvm.MethodName)) ∈ tm_ws := List.mem_filter.mpr ⟨List.mem_of_getElem? (i := 547) (by decide +kernel), by decide +kernel⟩
theorem tw_548 : (Jvm.Cond.static ({ cls := "GraphNamerLaw", name := "same", desc := "(LGraphNamer;II[J)I" } : Jvm.MethodName)) ∈ tm_ws := List.mem_filter.mpr ⟨List.mem_of_getElem? (i := 548) (by decide +kernel), by decide +kernel⟩
theorem tw_549 : (Jvm.Cond.codeWith ({ cls := "GraphNamerLaw", name := "same", desc := "(LGraphNamer;II[J)I" } : Jvm.MethodName) method_21_code (5 : Nat) (Option.some Jvm.ClassFile.FieldType.int) [((0 : Nat), (17 : Nat), (20 : Nat), (13 : Nat))]) ∈ tm_ws := List.mem_filter.mpr ⟨List.mem_of_getElem? (i := 549) (by decide +kernel), by decide +kernel⟩
theorem tw_550 : (Jvm.Cond.methodLink "GraphNamerLaw" (72 : Nat) ({ cls := "GraphNamer", name := "same", desc := "(II)Z" } : Jvm.MethodName)) ∈ tm_ws := List.mem_filter.mpr ⟨List.mem_of_getElem? (i := 550) (by decide +kernel), by decide +kernel⟩
theorem tw_551 : (Jvm.Cond.instanceMethod ({ cls := "GraphNamer", name := "same", desc := "(II)Z" } : Jvm.MethodName)) ∈ tm_ws := List.mem_filter.mpr ⟨List.mem_of_getElem? (i := 551) (by decide +kernel), by decide +kernel⟩
theorem tw_552 : (Jvm.Cond.selects "GraphNamer" ({ cls := "GraphNamer", name := "same", desc := "(II)Z" } : Jvm.MethodName) ({ cls := "GraphNamer", name := "same", desc := "(II)Z" } : Jvm.MethodName)) ∈ tm_ws := List.mem_filter.mpr ⟨List.mem_of_getElem? (i := 552) (by decide +kernel), by decide +kernel⟩
theorem tw_553 : (Jvm.Cond.code ({ cls := "GraphNamer", name := "same", desc := "(II)Z" } : Jvm.MethodName) prog_1_method_20_code (3 : Nat) (Option.some Jvm.ClassFile.FieldType.boolean)) ∈ tm_ws := List.mem_filter.mpr ⟨List.mem_of_getElem? (i := 553) (by decide +kernel), by decide +kernel⟩
theorem tw_554 : (Jvm.Cond.methodLink "GraphNamer" (143 : Nat) ({ cls := "GraphNamer", name := "alike", desc := "(LGraphNamer$Graph;LGraphNamer$Graph;)Z" } : Jvm.MethodName)) ∈ tm_ws := List.mem_filter.mpr ⟨List.mem_of_getElem? (i := 554) (by decide +kernel), by decide +kernel⟩
theorem tw_556 : (Jvm.Cond.instanceMethod ({ cls := "GraphNamer", name := "alike", desc := "(LGraphNamer$Graph;LGraphNamer$Graph;)Z" } : Jvm.MethodName)) ∈ tm_ws := List.mem_filter.mpr ⟨List.mem_of_getElem? (i := 556) (by decide +kernel), by decide +kernel⟩
theorem tw_557 : (Jvm.Cond.code ({ cls := "GraphNamer", name := "alike", desc := "(LGraphNamer$Graph;LGraphNamer$Graph;)Z" } : Jvm.MethodName) prog_1_method_29_code (3 : Nat) (Option.some Jvm.ClassFile.FieldType.boolean)) ∈ tm_ws := List.mem_filter.mpr ⟨List.mem_of_getElem? (i := 557) (by decide +kernel), by decide +kernel⟩
theorem tw_558 : (Jvm.Cond.methodLink "GraphNamer" (170 : Nat) ({ cls := "GraphNamer$Graph", name := "hasColoursOf", desc := "(LGraphNamer$Graph;)Z" } : Jvm.MethodName)) ∈ tm_ws := List.mem_filter.mpr ⟨List.mem_of_getElem? (i := 558) (by decide +kernel), by decide +kernel⟩
theorem tw_559 : (Jvm.Cond.instanceMethod ({ cls := "GraphNamer$Graph", name := "hasColoursOf", desc := "(LGraphNamer$Graph;)Z" } : Jvm.MethodName)) ∈ tm_ws := List.mem_filter.mpr ⟨List.mem_of_getElem? (i := 559) (by decide +kernel), by decide +kernel⟩
theorem tw_560 : (Jvm.Cond.selects "GraphNamer$Graph" ({ cls := "GraphNamer$Graph", name := "hasColoursOf", desc := "(LGraphNamer$Graph;)Z" } : Jvm.MethodName) ({ cls := "GraphNamer$Graph", name := "hasColoursOf", desc := "(LGraphNamer$Graph;)Z" } : Jvm.MethodName)) ∈ tm_ws := List.mem_filter.mpr ⟨List.mem_of_getElem? (i := 560) (by decide +kernel), by decide +kernel⟩
theorem tw_561 : (Jvm.Cond.code ({ cls := "GraphNamer$Graph", name := "hasColoursOf", desc := "(LGraphNamer$Graph;)Z" } : Jvm.MethodName) prog_2_method_12_code (3 : Nat) (Option.some Jvm.ClassFile.FieldType.boolean)) ∈ tm_ws := List.mem_filter.mpr ⟨List.mem_of_getElem? (i := 561) (by decide +kernel), by decide +kernel⟩
theorem tw_562 : (Jvm.Cond.methodLink "GraphNamer$Graph" (39 : Nat) ({ cls := "GraphNamer$Graph", name := "coloured", desc := "(I)I" } : Jvm.MethodName)) ∈ tm_ws := List.mem_filter.mpr ⟨List.mem_of_getElem? (i := 562) (by decide +kernel), by decide +kernel⟩
theorem tw_563 : (Jvm.Cond.methodLink "GraphNamerLaw" (153 : Nat) ({ cls := "GraphNamerLaw", name := "match", desc := "(LGraphNamer;III[J)I" } : Jvm.MethodName)) ∈ tm_ws := List.mem_filter.mpr ⟨List.mem_of_getElem? (i := 563) (by decide +kernel), by decide +kernel⟩
theorem tw_564 : (Jvm.Cond.static ({ cls := "GraphNamerLaw", name := "match", desc := "(LGraphNamer;III[J)I" } : Jvm.MethodName)) ∈ tm_ws := List.mem_filter.mpr ⟨List.mem_of_getElem? (i := 564) (by decide +kernel), by decide +kernel⟩
theorem tw_565 : (Jvm.Cond.codeWith ({ cls := "GraphNamerLaw", name := "match", desc := "(LGraphNamer;III[J)I" } : Jvm.MethodName) method_22_code (6 : Nat) (Option.some Jvm.ClassFile.FieldType.int) [((0 : Nat), (12 : Nat), (15 : Nat), (13 : Nat))]) ∈ tm_ws := List.mem_filter.mpr ⟨List.mem_of_getElem? (i := 565) (by decide +kernel), by decide +kernel⟩
theorem tw_566 : (Jvm.Cond.methodLink "GraphNamerLaw" (76 : Nat) ({ cls := "GraphNamer", name := "match", desc := "(III)I" } : Jvm.MethodName)) ∈ tm_ws := List.mem_filter.mpr ⟨List.mem_of_getElem? (i := 566) (by decide +kernel), by decide +kernel⟩
theorem tw_567 : (Jvm.Cond.instanceMethod ({ cls := "GraphNamer", name := "match", desc := "(III)I" } : Jvm.MethodName)) ∈ tm_ws := List.mem_filter.mpr ⟨List.mem_of_getElem? (i := 567) (by decide +kernel), by decide +kernel⟩
theorem tw_568 : (Jvm.Cond.selects "GraphNamer" ({ cls := "GraphNamer", name := "match", desc := "(III)I" } : Jvm.MethodName) ({ cls := "GraphNamer", name := "match", desc := "(III)I" } : Jvm.MethodName)) ∈ tm_ws := List.mem_filter.mpr ⟨List.mem_of_getElem? (i := 568) (by decide +kernel), by decide +kernel⟩
theorem tw_569 : (Jvm.Cond.code ({ cls := "GraphNamer", name := "match", desc := "(III)I" } : Jvm.MethodName) prog_1_method_21_code (4 : Nat) (Option.some Jvm.ClassFile.FieldType.int)) ∈ tm_ws := List.mem_filter.mpr ⟨List.mem_of_getElem? (i := 569) (by decide +kernel), by decide +kernel⟩
theorem tw_570 : (Jvm.Cond.methodLink "GraphNamerLaw" (156 : Nat) ({ cls := "GraphNamerLaw", name := "moves", desc := "(LGraphNamer;IIII[J)I" } : Jvm.MethodName)) ∈ tm_ws := List.mem_filter.mpr ⟨List.mem_of_getElem? (i := 570) (by decide +kernel), by decide +kernel⟩
theorem tw_571 : (Jvm.Cond.static ({ cls := "GraphNamerLaw", name := "moves", desc := "(LGraphNamer;IIII[J)I" } : Jvm.MethodName)) ∈ tm_ws := List.mem_filter.mpr ⟨List.mem_of_getElem? (i := 571) (by decide +kernel), by decide +kernel⟩
theorem tw_572 : (Jvm.Cond.codeWith ({ cls := "GraphNamerLaw", name := "moves", desc := "(LGraphNamer;IIII[J)I" } : Jvm.MethodName) method_23_code (7 : Nat) (Option.some Jvm.ClassFile.FieldType.int) [((0 : Nat), (21 : Nat), (24 : Nat), (13 : Nat))]) ∈ tm_ws := List.mem_filter.mpr ⟨List.mem_of_getElem? (i := 572) (by decide +kernel), by decide +kernel⟩
theorem tw_573 : (Jvm.Cond.methodLink "GraphNamerLaw" (79 : Nat) ({ cls := "GraphNamer", name := "moves", desc := "(IIII)Z" } : Jvm.MethodName)) ∈ tm_ws := List.mem_filter.mpr ⟨List.mem_of_getElem? (i := 573) (by decide +kernel), by decide +kernel⟩
theorem tw_574 : (Jvm.Cond.instanceMethod ({ cls := "GraphNamer", name := "moves", desc := "(IIII)Z" } : Jvm.MethodName)) ∈ tm_ws := List.mem_filter.mpr ⟨List.mem_of_getElem? (i := 574) (by decide +kernel), by decide +kernel⟩
theorem tw_575 : (Jvm.Cond.selects "GraphNamer" ({ cls := "GraphNamer", name := "moves", desc := "(IIII)Z" } : Jvm.MethodName) ({ cls := "GraphNamer", name := "moves", desc := "(IIII)Z" } : Jvm.MethodName)) ∈ tm_ws := List.mem_filter.mpr ⟨List.mem_of_getElem? (i := 575) (by decide +kernel), by decide +kernel⟩
theorem tw_576 : (Jvm.Cond.code ({ cls := "GraphNamer", name := "moves", desc := "(IIII)Z" } : Jvm.MethodName) prog_1_method_22_code (6 : Nat) (Option.some Jvm.ClassFile.FieldType.boolean)) ∈ tm_ws := List.mem_filter.mpr ⟨List.mem_of_getElem? (i := 576) (by decide +kernel), by decide +kernel⟩
theorem tw_577 : (Jvm.Cond.methodLink "GraphNamer" (150 : Nat) ({ cls := "GraphNamer$Laying", name := "carries", desc := "(LGraphNamer$Graph;III)Z" } : Jvm.MethodName)) ∈ tm_ws := List.mem_filter.mpr ⟨List.mem_of_getElem? (i := 577) (by decide +kernel), by decide +kernel⟩
theorem tw_584 : (Jvm.Cond.fieldLink "GraphNamerModel" (41 : Nat) "GraphNamerModel" "thrown" "I") ∈ tm_ws := List.mem_filter.mpr ⟨List.mem_of_getElem? (i := 584) (by decide +kernel), by decide +kernel⟩
theorem tw_585 : (Jvm.Cond.fieldLink "GraphNamerModel" (7 : Nat) "GraphNamerModel" "size" "[I") ∈ tm_ws := List.mem_filter.mpr ⟨List.mem_of_getElem? (i := 585) (by decide +kernel), by decide +kernel⟩
theorem tw_586 : (Jvm.Cond.fieldLink "GraphNamerModel" (13 : Nat) "GraphNamerModel" "colour" "[I") ∈ tm_ws := List.mem_filter.mpr ⟨List.mem_of_getElem? (i := 586) (by decide +kernel), by decide +kernel⟩
theorem tw_587 : (Jvm.Cond.fieldLink "GraphNamerModel" (16 : Nat) "GraphNamerModel" "edge" "[Z") ∈ tm_ws := List.mem_filter.mpr ⟨List.mem_of_getElem? (i := 587) (by decide +kernel), by decide +kernel⟩
theorem tw_588 : (Jvm.Cond.fieldLink "GraphNamerModel" (20 : Nat) "GraphNamerModel" "row" "[I") ∈ tm_ws := List.mem_filter.mpr ⟨List.mem_of_getElem? (i := 588) (by decide +kernel), by decide +kernel⟩
theorem tw_589 : (Jvm.Cond.fieldLink "GraphNamerModel" (23 : Nat) "GraphNamerModel" "first" "[I") ∈ tm_ws := List.mem_filter.mpr ⟨List.mem_of_getElem? (i := 589) (by decide +kernel), by decide +kernel⟩
theorem tw_590 : (Jvm.Cond.fieldLink "GraphNamerModel" (83 : Nat) "GraphNamerModel" "least" "I") ∈ tm_ws := List.mem_filter.mpr ⟨List.mem_of_getElem? (i := 590) (by decide +kernel), by decide +kernel⟩
theorem tw_591 : (Jvm.Cond.fieldLink "GraphNamerModel" (26 : Nat) "GraphNamerModel" "other" "[I") ∈ tm_ws := List.mem_filter.mpr ⟨List.mem_of_getElem? (i := 591) (by decide +kernel), by decide +kernel⟩
theorem tw_592 : (Jvm.Cond.fieldLink "GraphNamerModel" (124 : Nat) "GraphNamerModel" "otherLeast" "I") ∈ tm_ws := List.mem_filter.mpr ⟨List.mem_of_getElem? (i := 592) (by decide +kernel), by decide +kernel⟩
theorem tw_593 : (Jvm.Cond.fieldLink "GraphNamerModel" (29 : Nat) "GraphNamerModel" "cell" "[I") ∈ tm_ws := List.mem_filter.mpr ⟨List.mem_of_getElem? (i := 593) (by decide +kernel), by decide +kernel⟩
theorem tw_594 : (Jvm.Cond.fieldLink "GraphNamerModel" (32 : Nat) "GraphNamerModel" "finer" "[I") ∈ tm_ws := List.mem_filter.mpr ⟨List.mem_of_getElem? (i := 594) (by decide +kernel), by decide +kernel⟩
theorem tw_595 : (Jvm.Cond.fieldLink "GraphNamerModel" (35 : Nat) "GraphNamerModel" "spareColour" "[I") ∈ tm_ws := List.mem_filter.mpr ⟨List.mem_of_getElem? (i := 595) (by decide +kernel), by decide +kernel⟩
theorem tw_596 : (Jvm.Cond.fieldLink "GraphNamerModel" (38 : Nat) "GraphNamerModel" "spareEdge" "[Z") ∈ tm_ws := List.mem_filter.mpr ⟨List.mem_of_getElem? (i := 596) (by decide +kernel), by decide +kernel⟩
theorem tw_597 : (Jvm.Cond.lays "GraphNamerModel" "GraphNamerModel" "thrown" "I") ∈ tm_ws := List.mem_filter.mpr ⟨List.mem_of_getElem? (i := 597) (by decide +kernel), by decide +kernel⟩
theorem tw_599 : (Jvm.Cond.laysFinal "GraphNamerModel" "GraphNamerModel" "size" "[I") ∈ tm_ws := List.mem_filter.mpr ⟨List.mem_of_getElem? (i := 599) (by decide +kernel), by decide +kernel⟩
theorem tw_601 : (Jvm.Cond.laysFinal "GraphNamerModel" "GraphNamerModel" "colour" "[I") ∈ tm_ws := List.mem_filter.mpr ⟨List.mem_of_getElem? (i := 601) (by decide +kernel), by decide +kernel⟩
theorem tw_603 : (Jvm.Cond.laysFinal "GraphNamerModel" "GraphNamerModel" "edge" "[Z") ∈ tm_ws := List.mem_filter.mpr ⟨List.mem_of_getElem? (i := 603) (by decide +kernel), by decide +kernel⟩
theorem tw_605 : (Jvm.Cond.laysFinal "GraphNamerModel" "GraphNamerModel" "row" "[I") ∈ tm_ws := List.mem_filter.mpr ⟨List.mem_of_getElem? (i := 605) (by decide +kernel), by decide +kernel⟩
theorem tw_607 : (Jvm.Cond.laysFinal "GraphNamerModel" "GraphNamerModel" "first" "[I") ∈ tm_ws := List.mem_filter.mpr ⟨List.mem_of_getElem? (i := 607) (by decide +kernel), by decide +kernel⟩
theorem tw_609 : (Jvm.Cond.lays "GraphNamerModel" "GraphNamerModel" "least" "I") ∈ tm_ws := List.mem_filter.mpr ⟨List.mem_of_getElem? (i := 609) (by decide +kernel), by decide +kernel⟩
theorem tw_611 : (Jvm.Cond.laysFinal "GraphNamerModel" "GraphNamerModel" "other" "[I") ∈ tm_ws := List.mem_filter.mpr ⟨List.mem_of_getElem? (i := 611) (by decide +kernel), by decide +kernel⟩
theorem tw_613 : (Jvm.Cond.lays "GraphNamerModel" "GraphNamerModel" "otherLeast" "I") ∈ tm_ws := List.mem_filter.mpr ⟨List.mem_of_getElem? (i := 613) (by decide +kernel), by decide +kernel⟩
theorem tw_615 : (Jvm.Cond.laysFinal "GraphNamerModel" "GraphNamerModel" "cell" "[I") ∈ tm_ws := List.mem_filter.mpr ⟨List.mem_of_getElem? (i := 615) (by decide +kernel), by decide +kernel⟩
theorem tw_617 : (Jvm.Cond.laysFinal "GraphNamerModel" "GraphNamerModel" "finer" "[I") ∈ tm_ws := List.mem_filter.mpr ⟨List.mem_of_getElem? (i := 617) (by decide +kernel), by decide +kernel⟩
theorem tw_619 : (Jvm.Cond.laysFinal "GraphNamerModel" "GraphNamerModel" "spareColour" "[I") ∈ tm_ws := List.mem_filter.mpr ⟨List.mem_of_getElem? (i := 619) (by decide +kernel), by decide +kernel⟩
theorem tw_621 : (Jvm.Cond.laysFinal "GraphNamerModel" "GraphNamerModel" "spareEdge" "[Z") ∈ tm_ws := List.mem_filter.mpr ⟨List.mem_of_getElem? (i := 621) (by decide +kernel), by decide +kernel⟩
theorem tw_625 : (Jvm.Cond.methodLink "GraphNamerLaw" (93 : Nat) ({ cls := "GraphNamerModel", name := "thrown", desc := "()I" } : Jvm.MethodName)) ∈ tm_ws := List.mem_filter.mpr ⟨List.mem_of_getElem? (i := 625) (by decide +kernel), by decide +kernel⟩
theorem tw_626 : (Jvm.Cond.instanceMethod ({ cls := "GraphNamerModel", name := "thrown", desc := "()I" } : Jvm.MethodName)) ∈ tm_ws := List.mem_filter.mpr ⟨List.mem_of_getElem? (i := 626) (by decide +kernel), by decide +kernel⟩
theorem tw_627 : (Jvm.Cond.selects "GraphNamerModel" ({ cls := "GraphNamerModel", name := "thrown", desc := "()I" } : Jvm.MethodName) ({ cls := "GraphNamerModel", name := "thrown", desc := "()I" } : Jvm.MethodName)) ∈ tm_ws := List.mem_filter.mpr ⟨List.mem_of_getElem? (i := 627) (by decide +kernel), by decide +kernel⟩
theorem tw_628 : (Jvm.Cond.code ({ cls := "GraphNamerModel", name := "thrown", desc := "()I" } : Jvm.MethodName) prog_7_method_2_code (1 : Nat) (Option.some Jvm.ClassFile.FieldType.int)) ∈ tm_ws := List.mem_filter.mpr ⟨List.mem_of_getElem? (i := 628) (by decide +kernel), by decide +kernel⟩
theorem tw_629 : (Jvm.Cond.methodLink "GraphNamerLaw" (92 : Nat) ({ cls := "GraphNamerModel", name := "vertex", desc := "(II)I" } : Jvm.MethodName)) ∈ tm_ws := List.mem_filter.mpr ⟨List.mem_of_getElem? (i := 629) (by decide +kernel), by decide +kernel⟩
theorem tw_630 : (Jvm.Cond.instanceMethod ({ cls := "GraphNamerModel", name := "vertex", desc := "(II)I" } : Jvm.MethodName)) ∈ tm_ws := List.mem_filter.mpr ⟨List.mem_of_getElem? (i := 630) (by decide +kernel), by decide +kernel⟩
theorem tw_631 : (Jvm.Cond.selects "GraphNamerModel" ({ cls := "GraphNamerModel", name := "vertex", desc := "(II)I" } : Jvm.MethodName) ({ cls := "GraphNamerModel", name := "vertex", desc := "(II)I" } : Jvm.MethodName)) ∈ tm_ws := List.mem_filter.mpr ⟨List.mem_of_getElem? (i := 631) (by decide +kernel), by decide +kernel⟩
theorem tw_632 : (Jvm.Cond.code ({ cls := "GraphNamerModel", name := "vertex", desc := "(II)I" } : Jvm.MethodName) prog_7_method_11_code (5 : Nat) (Option.some Jvm.ClassFile.FieldType.int)) ∈ tm_ws := List.mem_filter.mpr ⟨List.mem_of_getElem? (i := 632) (by decide +kernel), by decide +kernel⟩
theorem tw_633 : (Jvm.Cond.methodLink "GraphNamerModel" (45 : Nat) ({ cls := "GraphNamerModel", name := "noGraph", desc := "(I)Z" } : Jvm.MethodName)) ∈ tm_ws := List.mem_filter.mpr ⟨List.mem_of_getElem? (i := 633) (by decide +kernel), by decide +kernel⟩
theorem tw_634 : (Jvm.Cond.static ({ cls := "GraphNamerModel", name := "noGraph", desc := "(I)Z" } : Jvm.MethodName)) ∈ tm_ws := List.mem_filter.mpr ⟨List.mem_of_getElem? (i := 634) (by decide +kernel), by decide +kernel⟩
theorem tw_635 : (Jvm.Cond.code ({ cls := "GraphNamerModel", name := "noGraph", desc := "(I)Z" } : Jvm.MethodName) prog_7_method_4_code (1 : Nat) (Option.some Jvm.ClassFile.FieldType.boolean)) ∈ tm_ws := List.mem_filter.mpr ⟨List.mem_of_getElem? (i := 635) (by decide +kernel), by decide +kernel⟩
theorem tw_636 : (Jvm.Cond.methodLink "GraphNamerModel" (53 : Nat) ({ cls := "GraphNamerModel", name := "refused", desc := "(I)Z" } : Jvm.MethodName)) ∈ tm_ws := List.mem_filter.mpr ⟨List.mem_of_getElem? (i := 636) (by decide +kernel), by decide +kernel⟩
theorem tw_638 : (Jvm.Cond.instanceMethod ({ cls := "GraphNamerModel", name := "refused", desc := "(I)Z" } : Jvm.MethodName)) ∈ tm_ws := List.mem_filter.mpr ⟨List.mem_of_getElem? (i := 638) (by decide +kernel), by decide +kernel⟩
theorem tw_639 : (Jvm.Cond.code ({ cls := "GraphNamerModel", name := "refused", desc := "(I)Z" } : Jvm.MethodName) prog_7_method_3_code (2 : Nat) (Option.some Jvm.ClassFile.FieldType.boolean)) ∈ tm_ws := List.mem_filter.mpr ⟨List.mem_of_getElem? (i := 639) (by decide +kernel), by decide +kernel⟩
theorem tw_640 : (Jvm.Cond.methodLink "GraphNamerModel" (56 : Nat) ({ cls := "GraphNamerModel", name := "set", desc := "(IIIZ)V" } : Jvm.MethodName)) ∈ tm_ws := List.mem_filter.mpr ⟨List.mem_of_getElem? (i := 640) (by decide +kernel), by decide +kernel⟩
theorem tw_642 : (Jvm.Cond.instanceMethod ({ cls := "GraphNamerModel", name := "set", desc := "(IIIZ)V" } : Jvm.MethodName)) ∈ tm_ws := List.mem_filter.mpr ⟨List.mem_of_getElem? (i := 642) (by decide +kernel), by decide +kernel⟩
theorem tw_643 : (Jvm.Cond.code ({ cls := "GraphNamerModel", name := "set", desc := "(IIIZ)V" } : Jvm.MethodName) prog_7_method_9_code (5 : Nat) (Option.none : Option Jvm.ClassFile.FieldType)) ∈ tm_ws := List.mem_filter.mpr ⟨List.mem_of_getElem? (i := 643) (by decide +kernel), by decide +kernel⟩
theorem tw_644 : (Jvm.Cond.methodLink "GraphNamerLaw" (100 : Nat) ({ cls := "GraphNamerModel", name := "paint", desc := "(III)I" } : Jvm.MethodName)) ∈ tm_ws := List.mem_filter.mpr ⟨List.mem_of_getElem? (i := 644) (by decide +kernel), by decide +kernel⟩
theorem tw_645 : (Jvm.Cond.instanceMethod ({ cls := "GraphNamerModel", name := "paint", desc := "(III)I" } : Jvm.MethodName)) ∈ tm_ws := List.mem_filter.mpr ⟨List.mem_of_getElem? (i := 645) (by decide +kernel), by decide +kernel⟩
theorem tw_646 : (Jvm.Cond.selects "GraphNamerModel" ({ cls := "GraphNamerModel", name := "paint", desc := "(III)I" } : Jvm.MethodName) ({ cls := "GraphNamerModel", name := "paint", desc := "(III)I" } : Jvm.MethodName)) ∈ tm_ws := List.mem_filter.mpr ⟨List.mem_of_getElem? (i := 646) (by decide +kernel), by decide +kernel⟩
theorem tw_647 : (Jvm.Cond.code ({ cls := "GraphNamerModel", name := "paint", desc := "(III)I" } : Jvm.MethodName) prog_7_method_12_code (5 : Nat) (Option.some Jvm.ClassFile.FieldType.int)) ∈ tm_ws := List.mem_filter.mpr ⟨List.mem_of_getElem? (i := 647) (by decide +kernel), by decide +kernel⟩
theorem tw_648 : (Jvm.Cond.methodLink "GraphNamerModel" (60 : Nat) ({ cls := "GraphNamerModel", name := "noVertex", desc := "(II)Z" } : Jvm.MethodName)) ∈ tm_ws := List.mem_filter.mpr ⟨List.mem_of_getElem? (i := 648) (by decide +kernel), by decide +kernel⟩
theorem tw_650 : (Jvm.Cond.instanceMethod ({ cls := "GraphNamerModel", name := "noVertex", desc := "(II)Z" } : Jvm.MethodName)) ∈ tm_ws := List.mem_filter.mpr ⟨List.mem_of_getElem? (i := 650) (by decide +kernel), by decide +kernel⟩
theorem tw_651 : (Jvm.Cond.code ({ cls := "GraphNamerModel", name := "noVertex", desc := "(II)Z" } : Jvm.MethodName) prog_7_method_5_code (3 : Nat) (Option.some Jvm.ClassFile.FieldType.boolean)) ∈ tm_ws := List.mem_filter.mpr ⟨List.mem_of_getElem? (i := 651) (by decide +kernel), by decide +kernel⟩
theorem tw_652 : (Jvm.Cond.methodLink "GraphNamerModel" (64 : Nat) ({ cls := "GraphNamerModel", name := "colourOf", desc := "(II)I" } : Jvm.MethodName)) ∈ tm_ws := List.mem_filter.mpr ⟨List.mem_of_getElem? (i := 652) (by decide +kernel), by decide +kernel⟩
theorem tw_654 : (Jvm.Cond.instanceMethod ({ cls := "GraphNamerModel", name := "colourOf", desc := "(II)I" } : Jvm.MethodName)) ∈ tm_ws := List.mem_filter.mpr ⟨List.mem_of_getElem? (i := 654) (by decide +kernel), by decide +kernel⟩
theorem tw_655 : (Jvm.Cond.code ({ cls := "GraphNamerModel", name := "colourOf", desc := "(II)I" } : Jvm.MethodName) prog_7_method_7_code (3 : Nat) (Option.some Jvm.ClassFile.FieldType.int)) ∈ tm_ws := List.mem_filter.mpr ⟨List.mem_of_getElem? (i := 655) (by decide +kernel), by decide +kernel⟩
theorem tw_656 : (Jvm.Cond.methodLink "GraphNamerLaw" (103 : Nat) ({ cls := "GraphNamerModel", name := "join", desc := "(III)I" } : Jvm.MethodName)) ∈ tm_ws := List.mem_filter.mpr ⟨List.mem_of_getElem? (i := 656) (by decide +kernel), by decide +kernel⟩
theorem tw_657 : (Jvm.Cond.instanceMethod ({ cls := "GraphNamerModel", name := "join", desc := "(III)I" } : Jvm.MethodName)) ∈ tm_ws := List.mem_filter.mpr ⟨List.mem_of_getElem? (i := 657) (by decide +kernel), by decide +kernel⟩
theorem tw_658 : (Jvm.Cond.selects "GraphNamerModel" ({ cls := "GraphNamerModel", name := "join", desc := "(III)I" } : Jvm.MethodName) ({ cls := "GraphNamerModel", name := "join", desc := "(III)I" } : Jvm.MethodName)) ∈ tm_ws := List.mem_filter.mpr ⟨List.mem_of_getElem? (i := 658) (by decide +kernel), by decide +kernel⟩
theorem tw_659 : (Jvm.Cond.code ({ cls := "GraphNamerModel", name := "join", desc := "(III)I" } : Jvm.MethodName) prog_7_method_13_code (4 : Nat) (Option.some Jvm.ClassFile.FieldType.int)) ∈ tm_ws := List.mem_filter.mpr ⟨List.mem_of_getElem? (i := 659) (by decide +kernel), by decide +kernel⟩
theorem tw_660 : (Jvm.Cond.methodLink "GraphNamerModel" (49 : Nat) ({ cls := "GraphNamerModel", name := "isEdge", desc := "(III)Z" } : Jvm.MethodName)) ∈ tm_ws := List.mem_filter.mpr ⟨List.mem_of_getElem? (i := 660) (by decide +kernel), by decide +kernel⟩
theorem tw_662 : (Jvm.Cond.instanceMethod ({ cls := "GraphNamerModel", name := "isEdge", desc := "(III)Z" } : Jvm.MethodName)) ∈ tm_ws := List.mem_filter.mpr ⟨List.mem_of_getElem? (i := 662) (by decide +kernel), by decide +kernel⟩
theorem tw_663 : (Jvm.Cond.code ({ cls := "GraphNamerModel", name := "isEdge", desc := "(III)Z" } : Jvm.MethodName) prog_7_method_8_code (4 : Nat) (Option.some Jvm.ClassFile.FieldType.boolean)) ∈ tm_ws := List.mem_filter.mpr ⟨List.mem_of_getElem? (i := 663) (by decide +kernel), by decide +kernel⟩
theorem tw_664 : (Jvm.Cond.methodLink "GraphNamerModel" (68 : Nat) ({ cls := "GraphNamerModel", name := "edges", desc := "(I)I" } : Jvm.MethodName)) ∈ tm_ws := List.mem_filter.mpr ⟨List.mem_of_getElem? (i := 664) (by decide +kernel), by decide +kernel⟩
theorem tw_666 : (Jvm.Cond.instanceMethod ({ cls := "GraphNamerModel", name := "edges", desc := "(I)I" } : Jvm.MethodName)) ∈ tm_ws := List.mem_filter.mpr ⟨List.mem_of_getElem? (i := 666) (by decide +kernel), by decide +kernel⟩
theorem tw_667 : (Jvm.Cond.code ({ cls := "GraphNamerModel", name := "edges", desc := "(I)I" } : Jvm.MethodName) prog_7_method_10_code (5 : Nat) (Option.some Jvm.ClassFile.FieldType.int)) ∈ tm_ws := List.mem_filter.mpr ⟨List.mem_of_getElem? (i := 667) (by decide +kernel), by decide +kernel⟩
theorem tw_668 : (Jvm.Cond.methodLink "GraphNamerLaw" (106 : Nat) ({ cls := "GraphNamerModel", name := "part", desc := "(III)I" } : Jvm.MethodName)) ∈ tm_ws := List.mem_filter.mpr ⟨List.mem_of_getElem? (i := 668) (by decide +kernel), by decide +kernel⟩
theorem tw_669 : (Jvm.Cond.instanceMethod ({ cls := "GraphNamerModel", name := "part", desc := "(III)I" } : Jvm.MethodName)) ∈ tm_ws := List.mem_filter.mpr ⟨List.mem_of_getElem? (i := 669) (by decide +kernel), by decide +kernel⟩
theorem tw_670 : (Jvm.Cond.selects "GraphNamerModel" ({ cls := "GraphNamerModel", name := "part", desc := "(III)I" } : Jvm.MethodName) ({ cls := "GraphNamerModel", name := "part", desc := "(III)I" } : Jvm.MethodName)) ∈ tm_ws := List.mem_filter.mpr ⟨List.mem_of_getElem? (i := 670) (by decide +kernel), by decide +kernel⟩
theorem tw_671 : (Jvm.Cond.code ({ cls := "GraphNamerModel", name := "part", desc := "(III)I" } : Jvm.MethodName) prog_7_method_14_code (4 : Nat) (Option.some Jvm.ClassFile.FieldType.int)) ∈ tm_ws := List.mem_filter.mpr ⟨List.mem_of_getElem? (i := 671) (by decide +kernel), by decide +kernel⟩
theorem tw_672 : (Jvm.Cond.methodLink "GraphNamerLaw" (110 : Nat) ({ cls := "GraphNamerModel", name := "clear", desc := "(I)I" } : Jvm.MethodName)) ∈ tm_ws := List.mem_filter.mpr ⟨List.mem_of_getElem? (i := 672) (by decide +kernel), by decide +kernel⟩
theorem tw_673 : (Jvm.Cond.instanceMethod ({ cls := "GraphNamerModel", name := "clear", desc := "(I)I" } : Jvm.MethodName)) ∈ tm_ws := List.mem_filter.mpr ⟨List.mem_of_getElem? (i := 673) (by decide +kernel), by decide +kernel⟩
theorem tw_674 : (Jvm.Cond.selects "GraphNamerModel" ({ cls := "GraphNamerModel", name := "clear", desc := "(I)I" } : Jvm.MethodName) ({ cls := "GraphNamerModel", name := "clear", desc := "(I)I" } : Jvm.MethodName)) ∈ tm_ws := List.mem_filter.mpr ⟨List.mem_of_getElem? (i := 674) (by decide +kernel), by decide +kernel⟩
theorem tw_675 : (Jvm.Cond.code ({ cls := "GraphNamerModel", name := "clear", desc := "(I)I" } : Jvm.MethodName) prog_7_method_15_code (3 : Nat) (Option.some Jvm.ClassFile.FieldType.int)) ∈ tm_ws := List.mem_filter.mpr ⟨List.mem_of_getElem? (i := 675) (by decide +kernel), by decide +kernel⟩
theorem tw_676 : (Jvm.Cond.methodLink "GraphNamerLaw" (113 : Nat) ({ cls := "GraphNamerModel", name := "copy", desc := "(II)I" } : Jvm.MethodName)) ∈ tm_ws := List.mem_filter.mpr ⟨List.mem_of_getElem? (i := 676) (by decide +kernel), by decide +kernel⟩
theorem tw_677 : (Jvm.Cond.instanceMethod ({ cls := "GraphNamerModel", name := "copy", desc := "(II)I" } : Jvm.MethodName)) ∈ tm_ws := List.mem_filter.mpr ⟨List.mem_of_getElem? (i := 677) (by decide +kernel), by decide +kernel⟩
theorem tw_678 : (Jvm.Cond.selects "GraphNamerModel" ({ cls := "GraphNamerModel", name := "copy", desc := "(II)I" } : Jvm.MethodName) ({ cls := "GraphNamerModel", name := "copy", desc := "(II)I" } : Jvm.MethodName)) ∈ tm_ws := List.mem_filter.mpr ⟨List.mem_of_getElem? (i := 678) (by decide +kernel), by decide +kernel⟩
theorem tw_679 : (Jvm.Cond.code ({ cls := "GraphNamerModel", name := "copy", desc := "(II)I" } : Jvm.MethodName) prog_7_method_16_code (4 : Nat) (Option.some Jvm.ClassFile.FieldType.int)) ∈ tm_ws := List.mem_filter.mpr ⟨List.mem_of_getElem? (i := 679) (by decide +kernel), by decide +kernel⟩
theorem tw_680 : (Jvm.Cond.methodLink "GraphNamerLaw" (116 : Nat) ({ cls := "GraphNamerModel", name := "turn", desc := "(I)I" } : Jvm.MethodName)) ∈ tm_ws := List.mem_filter.mpr ⟨List.mem_of_getElem? (i := 680) (by decide +kernel), by decide +kernel⟩
theorem tw_681 : (Jvm.Cond.instanceMethod ({ cls := "GraphNamerModel", name := "turn", desc := "(I)I" } : Jvm.MethodName)) ∈ tm_ws := List.mem_filter.mpr ⟨List.mem_of_getElem? (i := 681) (by decide +kernel), by decide +kernel⟩
theorem tw_682 : (Jvm.Cond.selects "GraphNamerModel" ({ cls := "GraphNamerModel", name := "turn", desc := "(I)I" } : Jvm.MethodName) ({ cls := "GraphNamerModel", name := "turn", desc := "(I)I" } : Jvm.MethodName)) ∈ tm_ws := List.mem_filter.mpr ⟨List.mem_of_getElem? (i := 682) (by decide +kernel), by decide +kernel⟩
theorem tw_683 : (Jvm.Cond.code ({ cls := "GraphNamerModel", name := "turn", desc := "(I)I" } : Jvm.MethodName) prog_7_method_17_code (4 : Nat) (Option.some Jvm.ClassFile.FieldType.int)) ∈ tm_ws := List.mem_filter.mpr ⟨List.mem_of_getElem? (i := 683) (by decide +kernel), by decide +kernel⟩
theorem tw_684 : (Jvm.Cond.methodLink "GraphNamerLaw" (119 : Nat) ({ cls := "GraphNamerModel", name := "settle", desc := "(I)I" } : Jvm.MethodName)) ∈ tm_ws := List.mem_filter.mpr ⟨List.mem_of_getElem? (i := 684) (by decide +kernel), by decide +kernel⟩
theorem tw_685 : (Jvm.Cond.instanceMethod ({ cls := "GraphNamerModel", name := "settle", desc := "(I)I" } : Jvm.MethodName)) ∈ tm_ws := List.mem_filter.mpr ⟨List.mem_of_getElem? (i := 685) (by decide +kernel), by decide +kernel⟩
theorem tw_686 : (Jvm.Cond.selects "GraphNamerModel" ({ cls := "GraphNamerModel", name := "settle", desc := "(I)I" } : Jvm.MethodName) ({ cls := "GraphNamerModel", name := "settle", desc := "(I)I" } : Jvm.MethodName)) ∈ tm_ws := List.mem_filter.mpr ⟨List.mem_of_getElem? (i := 686) (by decide +kernel), by decide +kernel⟩
theorem tw_687 : (Jvm.Cond.code ({ cls := "GraphNamerModel", name := "settle", desc := "(I)I" } : Jvm.MethodName) prog_7_method_18_code (6 : Nat) (Option.some Jvm.ClassFile.FieldType.int)) ∈ tm_ws := List.mem_filter.mpr ⟨List.mem_of_getElem? (i := 687) (by decide +kernel), by decide +kernel⟩
theorem tw_688 : (Jvm.Cond.methodLink "GraphNamerModel" (72 : Nat) ({ cls := "GraphNamerModel", name := "seek", desc := "(I)V" } : Jvm.MethodName)) ∈ tm_ws := List.mem_filter.mpr ⟨List.mem_of_getElem? (i := 688) (by decide +kernel), by decide +kernel⟩
theorem tw_690 : (Jvm.Cond.instanceMethod ({ cls := "GraphNamerModel", name := "seek", desc := "(I)V" } : Jvm.MethodName)) ∈ tm_ws := List.mem_filter.mpr ⟨List.mem_of_getElem? (i := 690) (by decide +kernel), by decide +kernel⟩
theorem tw_691 : (Jvm.Cond.code ({ cls := "GraphNamerModel", name := "seek", desc := "(I)V" } : Jvm.MethodName) prog_7_method_24_code (5 : Nat) (Option.none : Option Jvm.ClassFile.FieldType)) ∈ tm_ws := List.mem_filter.mpr ⟨List.mem_of_getElem? (i := 691) (by decide +kernel), by decide +kernel⟩
theorem tw_692 : (Jvm.Cond.methodLink "GraphNamerModel" (80 : Nat) ({ cls := "GraphNamerModel", name := "begin", desc := "()V" } : Jvm.MethodName)) ∈ tm_ws := List.mem_filter.mpr ⟨List.mem_of_getElem? (i := 692) (by decide +kernel), by decide +kernel⟩
theorem tw_694 : (Jvm.Cond.instanceMethod ({ cls := "GraphNamerModel", name := "begin", desc := "()V" } : Jvm.MethodName)) ∈ tm_ws := List.mem_filter.mpr ⟨List.mem_of_getElem? (i := 694) (by decide +kernel), by decide +kernel⟩
theorem tw_695 : (Jvm.Cond.code ({ cls := "GraphNamerModel", name := "begin", desc := "()V" } : Jvm.MethodName) prog_7_method_19_code (2 : Nat) (Option.none : Option Jvm.ClassFile.FieldType)) ∈ tm_ws := List.mem_filter.mpr ⟨List.mem_of_getElem? (i := 695) (by decide +kernel), by decide +kernel⟩
theorem tw_696 : (Jvm.Cond.methodLink "GraphNamerModel" (86 : Nat) ({ cls := "GraphNamerModel", name := "rises", desc := "(I)Z" } : Jvm.MethodName)) ∈ tm_ws := List.mem_filter.mpr ⟨List.mem_of_getElem? (i := 696) (by decide +kernel), by decide +kernel⟩
theorem tw_698 : (Jvm.Cond.instanceMethod ({ cls := "GraphNamerModel", name := "rises", desc := "(I)Z" } : Jvm.MethodName)) ∈ tm_ws := List.mem_filter.mpr ⟨List.mem_of_getElem? (i := 698) (by decide +kernel), by decide +kernel⟩
theorem tw_699 : (Jvm.Cond.code ({ cls := "GraphNamerModel", name := "rises", desc := "(I)Z" } : Jvm.MethodName) prog_7_method_22_code (4 : Nat) (Option.some Jvm.ClassFile.FieldType.boolean)) ∈ tm_ws := List.mem_filter.mpr ⟨List.mem_of_getElem? (i := 699) (by decide +kernel), by decide +kernel⟩
theorem tw_700 : (Jvm.Cond.methodLink "GraphNamerModel" (89 : Nat) ({ cls := "GraphNamerModel", name := "code", desc := "(I)I" } : Jvm.MethodName)) ∈ tm_ws := List.mem_filter.mpr ⟨List.mem_of_getElem? (i := 700) (by decide +kernel), by decide +kernel⟩
theorem tw_702 : (Jvm.Cond.instanceMethod ({ cls := "GraphNamerModel", name := "code", desc := "(I)I" } : Jvm.MethodName)) ∈ tm_ws := List.mem_filter.mpr ⟨List.mem_of_getElem? (i := 702) (by decide +kernel), by decide +kernel⟩
theorem tw_703 : (Jvm.Cond.code ({ cls := "GraphNamerModel", name := "code", desc := "(I)I" } : Jvm.MethodName) prog_7_method_23_code (6 : Nat) (Option.some Jvm.ClassFile.FieldType.int)) ∈ tm_ws := List.mem_filter.mpr ⟨List.mem_of_getElem? (i := 703) (by decide +kernel), by decide +kernel⟩
theorem tw_704 : (Jvm.Cond.methodLink "GraphNamerModel" (92 : Nat) ({ cls := "GraphNamerModel", name := "next", desc := "(I)Z" } : Jvm.MethodName)) ∈ tm_ws := List.mem_filter.mpr ⟨List.mem_of_getElem? (i := 704) (by decide +kernel), by decide +kernel⟩
theorem tw_706 : (Jvm.Cond.instanceMethod ({ cls := "GraphNamerModel", name := "next", desc := "(I)Z" } : Jvm.MethodName)) ∈ tm_ws := List.mem_filter.mpr ⟨List.mem_of_getElem? (i := 706) (by decide +kernel), by decide +kernel⟩
theorem tw_707 : (Jvm.Cond.code ({ cls := "GraphNamerModel", name := "next", desc := "(I)Z" } : Jvm.MethodName) prog_7_method_20_code (6 : Nat) (Option.some Jvm.ClassFile.FieldType.boolean)) ∈ tm_ws := List.mem_filter.mpr ⟨List.mem_of_getElem? (i := 707) (by decide +kernel), by decide +kernel⟩
theorem tw_708 : (Jvm.Cond.methodLink "GraphNamerModel" (76 : Nat) ({ cls := "GraphNamerModel", name := "change", desc := "(II)V" } : Jvm.MethodName)) ∈ tm_ws := List.mem_filter.mpr ⟨List.mem_of_getElem? (i := 708) (by decide +kernel), by decide +kernel⟩
theorem tw_710 : (Jvm.Cond.instanceMethod ({ cls := "GraphNamerModel", name := "change", desc := "(II)V" } : Jvm.MethodName)) ∈ tm_ws := List.mem_filter.mpr ⟨List.mem_of_getElem? (i := 710) (by decide +kernel), by decide +kernel⟩
theorem tw_711 : (Jvm.Cond.code ({ cls := "GraphNamerModel", name := "change", desc := "(II)V" } : Jvm.MethodName) prog_7_method_21_code (4 : Nat) (Option.none : Option Jvm.ClassFile.FieldType)) ∈ tm_ws := List.mem_filter.mpr ⟨List.mem_of_getElem? (i := 711) (by decide +kernel), by decide +kernel⟩
theorem tw_712 : (Jvm.Cond.methodLink "GraphNamerLaw" (122 : Nat) ({ cls := "GraphNamerModel", name := "size", desc := "(I)I" } : Jvm.MethodName)) ∈ tm_ws := List.mem_filter.mpr ⟨List.mem_of_getElem? (i := 712) (by decide +kernel), by decide +kernel⟩
theorem tw_713 : (Jvm.Cond.instanceMethod ({ cls := "GraphNamerModel", name := "size", desc := "(I)I" } : Jvm.MethodName)) ∈ tm_ws := List.mem_filter.mpr ⟨List.mem_of_getElem? (i := 713) (by decide +kernel), by decide +kernel⟩
theorem tw_714 : (Jvm.Cond.selects "GraphNamerModel" ({ cls := "GraphNamerModel", name := "size", desc := "(I)I" } : Jvm.MethodName) ({ cls := "GraphNamerModel", name := "size", desc := "(I)I" } : Jvm.MethodName)) ∈ tm_ws := List.mem_filter.mpr ⟨List.mem_of_getElem? (i := 714) (by decide +kernel), by decide +kernel⟩
theorem tw_715 : (Jvm.Cond.code ({ cls := "GraphNamerModel", name := "size", desc := "(I)I" } : Jvm.MethodName) prog_7_method_32_code (2 : Nat) (Option.some Jvm.ClassFile.FieldType.int)) ∈ tm_ws := List.mem_filter.mpr ⟨List.mem_of_getElem? (i := 715) (by decide +kernel), by decide +kernel⟩
theorem tw_716 : (Jvm.Cond.methodLink "GraphNamerLaw" (125 : Nat) ({ cls := "GraphNamerModel", name := "beside", desc := "(II)I" } : Jvm.MethodName)) ∈ tm_ws := List.mem_filter.mpr ⟨List.mem_of_getElem? (i := 716) (by decide +kernel), by decide +kernel⟩
theorem tw_717 : (Jvm.Cond.instanceMethod ({ cls := "GraphNamerModel", name := "beside", desc := "(II)I" } : Jvm.MethodName)) ∈ tm_ws := List.mem_filter.mpr ⟨List.mem_of_getElem? (i := 717) (by decide +kernel), by decide +kernel⟩
theorem tw_718 : (Jvm.Cond.selects "GraphNamerModel" ({ cls := "GraphNamerModel", name := "beside", desc := "(II)I" } : Jvm.MethodName) ({ cls := "GraphNamerModel", name := "beside", desc := "(II)I" } : Jvm.MethodName)) ∈ tm_ws := List.mem_filter.mpr ⟨List.mem_of_getElem? (i := 718) (by decide +kernel), by decide +kernel⟩
theorem tw_719 : (Jvm.Cond.code ({ cls := "GraphNamerModel", name := "beside", desc := "(II)I" } : Jvm.MethodName) prog_7_method_33_code (5 : Nat) (Option.some Jvm.ClassFile.FieldType.int)) ∈ tm_ws := List.mem_filter.mpr ⟨List.mem_of_getElem? (i := 719) (by decide +kernel), by decide +kernel⟩
theorem tw_720 : (Jvm.Cond.methodLink "GraphNamerLaw" (128 : Nat) ({ cls := "GraphNamerModel", name := "name", desc := "(I)I" } : Jvm.MethodName)) ∈ tm_ws := List.mem_filter.mpr ⟨List.mem_of_getElem? (i := 720) (by decide +kernel), by decide +kernel⟩
theorem tw_721 : (Jvm.Cond.instanceMethod ({ cls := "GraphNamerModel", name := "name", desc := "(I)I" } : Jvm.MethodName)) ∈ tm_ws := List.mem_filter.mpr ⟨List.mem_of_getElem? (i := 721) (by decide +kernel), by decide +kernel⟩
theorem tw_722 : (Jvm.Cond.selects "GraphNamerModel" ({ cls := "GraphNamerModel", name := "name", desc := "(I)I" } : Jvm.MethodName) ({ cls := "GraphNamerModel", name := "name", desc := "(I)I" } : Jvm.MethodName)) ∈ tm_ws := List.mem_filter.mpr ⟨List.mem_of_getElem? (i := 722) (by decide +kernel), by decide +kernel⟩
theorem tw_723 : (Jvm.Cond.code ({ cls := "GraphNamerModel", name := "name", desc := "(I)I" } : Jvm.MethodName) prog_7_method_34_code (2 : Nat) (Option.some Jvm.ClassFile.FieldType.int)) ∈ tm_ws := List.mem_filter.mpr ⟨List.mem_of_getElem? (i := 723) (by decide +kernel), by decide +kernel⟩
theorem tw_724 : (Jvm.Cond.methodLink "GraphNamerLaw" (131 : Nat) ({ cls := "GraphNamerModel", name := "place", desc := "(II)I" } : Jvm.MethodName)) ∈ tm_ws := List.mem_filter.mpr ⟨List.mem_of_getElem? (i := 724) (by decide +kernel), by decide +kernel⟩
theorem tw_725 : (Jvm.Cond.instanceMethod ({ cls := "GraphNamerModel", name := "place", desc := "(II)I" } : Jvm.MethodName)) ∈ tm_ws := List.mem_filter.mpr ⟨List.mem_of_getElem? (i := 725) (by decide +kernel), by decide +kernel⟩
theorem tw_726 : (Jvm.Cond.selects "GraphNamerModel" ({ cls := "GraphNamerModel", name := "place", desc := "(II)I" } : Jvm.MethodName) ({ cls := "GraphNamerModel", name := "place", desc := "(II)I" } : Jvm.MethodName)) ∈ tm_ws := List.mem_filter.mpr ⟨List.mem_of_getElem? (i := 726) (by decide +kernel), by decide +kernel⟩
theorem tw_727 : (Jvm.Cond.code ({ cls := "GraphNamerModel", name := "place", desc := "(II)I" } : Jvm.MethodName) prog_7_method_36_code (3 : Nat) (Option.some Jvm.ClassFile.FieldType.int)) ∈ tm_ws := List.mem_filter.mpr ⟨List.mem_of_getElem? (i := 727) (by decide +kernel), by decide +kernel⟩
theorem tw_728 : (Jvm.Cond.methodLink "GraphNamerModel" (108 : Nat) ({ cls := "GraphNamerModel", name := "placeOf", desc := "(I)I" } : Jvm.MethodName)) ∈ tm_ws := List.mem_filter.mpr ⟨List.mem_of_getElem? (i := 728) (by decide +kernel), by decide +kernel⟩
theorem tw_730 : (Jvm.Cond.instanceMethod ({ cls := "GraphNamerModel", name := "placeOf", desc := "(I)I" } : Jvm.MethodName)) ∈ tm_ws := List.mem_filter.mpr ⟨List.mem_of_getElem? (i := 730) (by decide +kernel), by decide +kernel⟩
theorem tw_731 : (Jvm.Cond.code ({ cls := "GraphNamerModel", name := "placeOf", desc := "(I)I" } : Jvm.MethodName) prog_7_method_35_code (3 : Nat) (Option.some Jvm.ClassFile.FieldType.int)) ∈ tm_ws := List.mem_filter.mpr ⟨List.mem_of_getElem? (i := 731) (by decide +kernel), by decide +kernel⟩
theorem tw_732 : (Jvm.Cond.methodLink "GraphNamerLaw" (134 : Nat) ({ cls := "GraphNamerModel", name := "automorphisms", desc := "(I)I" } : Jvm.MethodName)) ∈ tm_ws := List.mem_filter.mpr ⟨List.mem_of_getElem? (i := 732) (by decide +kernel), by decide +kernel⟩
theorem tw_733 : (Jvm.Cond.instanceMethod ({ cls := "GraphNamerModel", name := "automorphisms", desc := "(I)I" } : Jvm.MethodName)) ∈ tm_ws := List.mem_filter.mpr ⟨List.mem_of_getElem? (i := 733) (by decide +kernel), by decide +kernel⟩
theorem tw_734 : (Jvm.Cond.selects "GraphNamerModel" ({ cls := "GraphNamerModel", name := "automorphisms", desc := "(I)I" } : Jvm.MethodName) ({ cls := "GraphNamerModel", name := "automorphisms", desc := "(I)I" } : Jvm.MethodName)) ∈ tm_ws := List.mem_filter.mpr ⟨List.mem_of_getElem? (i := 734) (by decide +kernel), by decide +kernel⟩
theorem tw_735 : (Jvm.Cond.code ({ cls := "GraphNamerModel", name := "automorphisms", desc := "(I)I" } : Jvm.MethodName) prog_7_method_37_code (2 : Nat) (Option.some Jvm.ClassFile.FieldType.int)) ∈ tm_ws := List.mem_filter.mpr ⟨List.mem_of_getElem? (i := 735) (by decide +kernel), by decide +kernel⟩
theorem tw_736 : (Jvm.Cond.methodLink "GraphNamerModel" (111 : Nat) ({ cls := "GraphNamerModel", name := "count", desc := "(IIII)I" } : Jvm.MethodName)) ∈ tm_ws := List.mem_filter.mpr ⟨List.mem_of_getElem? (i := 736) (by decide +kernel), by decide +kernel⟩
theorem tw_738 : (Jvm.Cond.instanceMethod ({ cls := "GraphNamerModel", name := "count", desc := "(IIII)I" } : Jvm.MethodName)) ∈ tm_ws := List.mem_filter.mpr ⟨List.mem_of_getElem? (i := 738) (by decide +kernel), by decide +kernel⟩
theorem tw_739 : (Jvm.Cond.code ({ cls := "GraphNamerModel", name := "count", desc := "(IIII)I" } : Jvm.MethodName) prog_7_method_27_code (8 : Nat) (Option.some Jvm.ClassFile.FieldType.int)) ∈ tm_ws := List.mem_filter.mpr ⟨List.mem_of_getElem? (i := 739) (by decide +kernel), by decide +kernel⟩
theorem tw_740 : (Jvm.Cond.methodLink "GraphNamerModel" (95 : Nat) ({ cls := "GraphNamerModel", name := "keeps", desc := "(I)Z" } : Jvm.MethodName)) ∈ tm_ws := List.mem_filter.mpr ⟨List.mem_of_getElem? (i := 740) (by decide +kernel), by decide +kernel⟩
theorem tw_742 : (Jvm.Cond.instanceMethod ({ cls := "GraphNamerModel", name := "keeps", desc := "(I)Z" } : Jvm.MethodName)) ∈ tm_ws := List.mem_filter.mpr ⟨List.mem_of_getElem? (i := 742) (by decide +kernel), by decide +kernel⟩
theorem tw_743 : (Jvm.Cond.code ({ cls := "GraphNamerModel", name := "keeps", desc := "(I)Z" } : Jvm.MethodName) prog_7_method_26_code (4 : Nat) (Option.some Jvm.ClassFile.FieldType.boolean)) ∈ tm_ws := List.mem_filter.mpr ⟨List.mem_of_getElem? (i := 743) (by decide +kernel), by decide +kernel⟩
theorem tw_744 : (Jvm.Cond.methodLink "GraphNamerModel" (98 : Nat) ({ cls := "GraphNamerModel", name := "lays", desc := "(I)Z" } : Jvm.MethodName)) ∈ tm_ws := List.mem_filter.mpr ⟨List.mem_of_getElem? (i := 744) (by decide +kernel), by decide +kernel⟩
theorem tw_746 : (Jvm.Cond.instanceMethod ({ cls := "GraphNamerModel", name := "lays", desc := "(I)Z" } : Jvm.MethodName)) ∈ tm_ws := List.mem_filter.mpr ⟨List.mem_of_getElem? (i := 746) (by decide +kernel), by decide +kernel⟩
theorem tw_747 : (Jvm.Cond.code ({ cls := "GraphNamerModel", name := "lays", desc := "(I)Z" } : Jvm.MethodName) prog_7_method_25_code (4 : Nat) (Option.some Jvm.ClassFile.FieldType.boolean)) ∈ tm_ws := List.mem_filter.mpr ⟨List.mem_of_getElem? (i := 747) (by decide +kernel), by decide +kernel⟩
theorem tw_748 : (Jvm.Cond.methodLink "GraphNamerLaw" (137 : Nat) ({ cls := "GraphNamerModel", name := "fixing", desc := "(II)I" } : Jvm.MethodName)) ∈ tm_ws := List.mem_filter.mpr ⟨List.mem_of_getElem? (i := 748) (by decide +kernel), by decide +kernel⟩
theorem tw_749 : (Jvm.Cond.instanceMethod ({ cls := "GraphNamerModel", name := "fixing", desc := "(II)I" } : Jvm.MethodName)) ∈ tm_ws := List.mem_filter.mpr ⟨List.mem_of_getElem? (i := 749) (by decide +kernel), by decide +kernel⟩
theorem tw_750 : (Jvm.Cond.selects "GraphNamerModel" ({ cls := "GraphNamerModel", name := "fixing", desc := "(II)I" } : Jvm.MethodName) ({ cls := "GraphNamerModel", name := "fixing", desc := "(II)I" } : Jvm.MethodName)) ∈ tm_ws := List.mem_filter.mpr ⟨List.mem_of_getElem? (i := 750) (by decide +kernel), by decide +kernel⟩
theorem tw_751 : (Jvm.Cond.code ({ cls := "GraphNamerModel", name := "fixing", desc := "(II)I" } : Jvm.MethodName) prog_7_method_38_code (3 : Nat) (Option.some Jvm.ClassFile.FieldType.int)) ∈ tm_ws := List.mem_filter.mpr ⟨List.mem_of_getElem? (i := 751) (by decide +kernel), by decide +kernel⟩
theorem tw_752 : (Jvm.Cond.methodLink "GraphNamerModel" (115 : Nat) ({ cls := "GraphNamerModel", name := "strange", desc := "(II)Z" } : Jvm.MethodName)) ∈ tm_ws := List.mem_filter.mpr ⟨List.mem_of_getElem? (i := 752) (by decide +kernel), by decide +kernel⟩
theorem tw_754 : (Jvm.Cond.instanceMethod ({ cls := "GraphNamerModel", name := "strange", desc := "(II)Z" } : Jvm.MethodName)) ∈ tm_ws := List.mem_filter.mpr ⟨List.mem_of_getElem? (i := 754) (by decide +kernel), by decide +kernel⟩
theorem tw_755 : (Jvm.Cond.code ({ cls := "GraphNamerModel", name := "strange", desc := "(II)Z" } : Jvm.MethodName) prog_7_method_6_code (3 : Nat) (Option.some Jvm.ClassFile.FieldType.boolean)) ∈ tm_ws := List.mem_filter.mpr ⟨List.mem_of_getElem? (i := 755) (by decide +kernel), by decide +kernel⟩
theorem tw_756 : (Jvm.Cond.methodLink "GraphNamerLaw" (140 : Nat) ({ cls := "GraphNamerModel", name := "orbit", desc := "(II)I" } : Jvm.MethodName)) ∈ tm_ws := List.mem_filter.mpr ⟨List.mem_of_getElem? (i := 756) (by decide +kernel), by decide +kernel⟩
theorem tw_757 : (Jvm.Cond.instanceMethod ({ cls := "GraphNamerModel", name := "orbit", desc := "(II)I" } : Jvm.MethodName)) ∈ tm_ws := List.mem_filter.mpr ⟨List.mem_of_getElem? (i := 757) (by decide +kernel), by decide +kernel⟩
theorem tw_758 : (Jvm.Cond.selects "GraphNamerModel" ({ cls := "GraphNamerModel", name := "orbit", desc := "(II)I" } : Jvm.MethodName) ({ cls := "GraphNamerModel", name := "orbit", desc := "(II)I" } : Jvm.MethodName)) ∈ tm_ws := List.mem_filter.mpr ⟨List.mem_of_getElem? (i := 758) (by decide +kernel), by decide +kernel⟩
theorem tw_759 : (Jvm.Cond.code ({ cls := "GraphNamerModel", name := "orbit", desc := "(II)I" } : Jvm.MethodName) prog_7_method_39_code (3 : Nat) (Option.some Jvm.ClassFile.FieldType.int)) ∈ tm_ws := List.mem_filter.mpr ⟨List.mem_of_getElem? (i := 759) (by decide +kernel), by decide +kernel⟩
theorem tw_760 : (Jvm.Cond.methodLink "GraphNamerModel" (118 : Nat) ({ cls := "GraphNamerModel", name := "orbitOf", desc := "(II)I" } : Jvm.MethodName)) ∈ tm_ws := List.mem_filter.mpr ⟨List.mem_of_getElem? (i := 760) (by decide +kernel), by decide +kernel⟩
theorem tw_762 : (Jvm.Cond.instanceMethod ({ cls := "GraphNamerModel", name := "orbitOf", desc := "(II)I" } : Jvm.MethodName)) ∈ tm_ws := List.mem_filter.mpr ⟨List.mem_of_getElem? (i := 762) (by decide +kernel), by decide +kernel⟩
theorem tw_763 : (Jvm.Cond.code ({ cls := "GraphNamerModel", name := "orbitOf", desc := "(II)I" } : Jvm.MethodName) prog_7_method_28_code (5 : Nat) (Option.some Jvm.ClassFile.FieldType.int)) ∈ tm_ws := List.mem_filter.mpr ⟨List.mem_of_getElem? (i := 763) (by decide +kernel), by decide +kernel⟩
theorem tw_764 : (Jvm.Cond.methodLink "GraphNamerLaw" (143 : Nat) ({ cls := "GraphNamerModel", name := "orbits", desc := "(I)I" } : Jvm.MethodName)) ∈ tm_ws := List.mem_filter.mpr ⟨List.mem_of_getElem? (i := 764) (by decide +kernel), by decide +kernel⟩
theorem tw_765 : (Jvm.Cond.instanceMethod ({ cls := "GraphNamerModel", name := "orbits", desc := "(I)I" } : Jvm.MethodName)) ∈ tm_ws := List.mem_filter.mpr ⟨List.mem_of_getElem? (i := 765) (by decide +kernel), by decide +kernel⟩
theorem tw_766 : (Jvm.Cond.selects "GraphNamerModel" ({ cls := "GraphNamerModel", name := "orbits", desc := "(I)I" } : Jvm.MethodName) ({ cls := "GraphNamerModel", name := "orbits", desc := "(I)I" } : Jvm.MethodName)) ∈ tm_ws := List.mem_filter.mpr ⟨List.mem_of_getElem? (i := 766) (by decide +kernel), by decide +kernel⟩
theorem tw_767 : (Jvm.Cond.code ({ cls := "GraphNamerModel", name := "orbits", desc := "(I)I" } : Jvm.MethodName) prog_7_method_40_code (4 : Nat) (Option.some Jvm.ClassFile.FieldType.int)) ∈ tm_ws := List.mem_filter.mpr ⟨List.mem_of_getElem? (i := 767) (by decide +kernel), by decide +kernel⟩
theorem tw_768 : (Jvm.Cond.methodLink "GraphNamerLaw" (146 : Nat) ({ cls := "GraphNamerModel", name := "cell", desc := "(II)I" } : Jvm.MethodName)) ∈ tm_ws := List.mem_filter.mpr ⟨List.mem_of_getElem? (i := 768) (by decide +kernel), by decide +kernel⟩
theorem tw_769 : (Jvm.Cond.instanceMethod ({ cls := "GraphNamerModel", name := "cell", desc := "(II)I" } : Jvm.MethodName)) ∈ tm_ws := List.mem_filter.mpr ⟨List.mem_of_getElem? (i := 769) (by decide +kernel), by decide +kernel⟩
theorem tw_770 : (Jvm.Cond.selects "GraphNamerModel" ({ cls := "GraphNamerModel", name := "cell", desc := "(II)I" } : Jvm.MethodName) ({ cls := "GraphNamerModel", name := "cell", desc := "(II)I" } : Jvm.MethodName)) ∈ tm_ws := List.mem_filter.mpr ⟨List.mem_of_getElem? (i := 770) (by decide +kernel), by decide +kernel⟩
theorem tw_771 : (Jvm.Cond.code ({ cls := "GraphNamerModel", name := "cell", desc := "(II)I" } : Jvm.MethodName) prog_7_method_41_code (5 : Nat) (Option.some Jvm.ClassFile.FieldType.int)) ∈ tm_ws := List.mem_filter.mpr ⟨List.mem_of_getElem? (i := 771) (by decide +kernel), by decide +kernel⟩
theorem tw_772 : (Jvm.Cond.methodLink "GraphNamerModel" (121 : Nat) ({ cls := "GraphNamerModel", name := "split", desc := "(I)V" } : Jvm.MethodName)) ∈ tm_ws := List.mem_filter.mpr ⟨List.mem_of_getElem? (i := 772) (by decide +kernel), by decide +kernel⟩
theorem tw_774 : (Jvm.Cond.instanceMethod ({ cls := "GraphNamerModel", name := "split", desc := "(I)V" } : Jvm.MethodName)) ∈ tm_ws := List.mem_filter.mpr ⟨List.mem_of_getElem? (i := 774) (by decide +kernel), by decide +kernel⟩
theorem tw_775 : (Jvm.Cond.code ({ cls := "GraphNamerModel", name := "split", desc := "(I)V" } : Jvm.MethodName) prog_7_method_31_code (6 : Nat) (Option.none : Option Jvm.ClassFile.FieldType)) ∈ tm_ws := List.mem_filter.mpr ⟨List.mem_of_getElem? (i := 775) (by decide +kernel), by decide +kernel⟩
theorem tw_776 : (Jvm.Cond.methodLink "GraphNamerModel" (105 : Nat) ({ cls := "GraphNamerModel", name := "agree", desc := "(III)Z" } : Jvm.MethodName)) ∈ tm_ws := List.mem_filter.mpr ⟨List.mem_of_getElem? (i := 776) (by decide +kernel), by decide +kernel⟩
theorem tw_778 : (Jvm.Cond.instanceMethod ({ cls := "GraphNamerModel", name := "agree", desc := "(III)Z" } : Jvm.MethodName)) ∈ tm_ws := List.mem_filter.mpr ⟨List.mem_of_getElem? (i := 778) (by decide +kernel), by decide +kernel⟩
theorem tw_779 : (Jvm.Cond.code ({ cls := "GraphNamerModel", name := "agree", desc := "(III)Z" } : Jvm.MethodName) prog_7_method_30_code (6 : Nat) (Option.some Jvm.ClassFile.FieldType.boolean)) ∈ tm_ws := List.mem_filter.mpr ⟨List.mem_of_getElem? (i := 779) (by decide +kernel), by decide +kernel⟩
theorem tw_780 : (Jvm.Cond.methodLink "GraphNamerModel" (101 : Nat) ({ cls := "GraphNamerModel", name := "links", desc := "(III)I" } : Jvm.MethodName)) ∈ tm_ws := List.mem_filter.mpr ⟨List.mem_of_getElem? (i := 780) (by decide +kernel), by decide +kernel⟩
theorem tw_782 : (Jvm.Cond.instanceMethod ({ cls := "GraphNamerModel", name := "links", desc := "(III)I" } : Jvm.MethodName)) ∈ tm_ws := List.mem_filter.mpr ⟨List.mem_of_getElem? (i := 782) (by decide +kernel), by decide +kernel⟩
theorem tw_783 : (Jvm.Cond.code ({ cls := "GraphNamerModel", name := "links", desc := "(III)I" } : Jvm.MethodName) prog_7_method_29_code (6 : Nat) (Option.some Jvm.ClassFile.FieldType.int)) ∈ tm_ws := List.mem_filter.mpr ⟨List.mem_of_getElem? (i := 783) (by decide +kernel), by decide +kernel⟩
theorem tw_784 : (Jvm.Cond.methodLink "GraphNamerLaw" (149 : Nat) ({ cls := "GraphNamerModel", name := "cells", desc := "(I)I" } : Jvm.MethodName)) ∈ tm_ws := List.mem_filter.mpr ⟨List.mem_of_getElem? (i := 784) (by decide +kernel), by decide +kernel⟩
theorem tw_785 : (Jvm.Cond.instanceMethod ({ cls := "GraphNamerModel", name := "cells", desc := "(I)I" } : Jvm.MethodName)) ∈ tm_ws := List.mem_filter.mpr ⟨List.mem_of_getElem? (i := 785) (by decide +kernel), by decide +kernel⟩
theorem tw_786 : (Jvm.Cond.selects "GraphNamerModel" ({ cls := "GraphNamerModel", name := "cells", desc := "(I)I" } : Jvm.MethodName) ({ cls := "GraphNamerModel", name := "cells", desc := "(I)I" } : Jvm.MethodName)) ∈ tm_ws := List.mem_filter.mpr ⟨List.mem_of_getElem? (i := 786) (by decide +kernel), by decide +kernel⟩
theorem tw_787 : (Jvm.Cond.code ({ cls := "GraphNamerModel", name := "cells", desc := "(I)I" } : Jvm.MethodName) prog_7_method_42_code (4 : Nat) (Option.some Jvm.ClassFile.FieldType.int)) ∈ tm_ws := List.mem_filter.mpr ⟨List.mem_of_getElem? (i := 787) (by decide +kernel), by decide +kernel⟩
theorem tw_788 : (Jvm.Cond.methodLink "GraphNamerLaw" (152 : Nat) ({ cls := "GraphNamerModel", name := "same", desc := "(II)Z" } : Jvm.MethodName)) ∈ tm_ws := List.mem_filter.mpr ⟨List.mem_of_getElem? (i := 788) (by decide +kernel), by decide +kernel⟩
theorem tw_789 : (Jvm.Cond.instanceMethod ({ cls := "GraphNamerModel", name := "same", desc := "(II)Z" } : Jvm.MethodName)) ∈ tm_ws := List.mem_filter.mpr ⟨List.mem_of_getElem? (i := 789) (by decide +kernel), by decide +kernel⟩
theorem tw_790 : (Jvm.Cond.selects "GraphNamerModel" ({ cls := "GraphNamerModel", name := "same", desc := "(II)Z" } : Jvm.MethodName) ({ cls := "GraphNamerModel", name := "same", desc := "(II)Z" } : Jvm.MethodName)) ∈ tm_ws := List.mem_filter.mpr ⟨List.mem_of_getElem? (i := 790) (by decide +kernel), by decide +kernel⟩
theorem tw_791 : (Jvm.Cond.code ({ cls := "GraphNamerModel", name := "same", desc := "(II)Z" } : Jvm.MethodName) prog_7_method_44_code (3 : Nat) (Option.some Jvm.ClassFile.FieldType.boolean)) ∈ tm_ws := List.mem_filter.mpr ⟨List.mem_of_getElem? (i := 791) (by decide +kernel), by decide +kernel⟩
theorem tw_792 : (Jvm.Cond.methodLink "GraphNamerModel" (127 : Nat) ({ cls := "GraphNamerModel", name := "alike", desc := "(II)Z" } : Jvm.MethodName)) ∈ tm_ws := List.mem_filter.mpr ⟨List.mem_of_getElem? (i := 792) (by decide +kernel), by decide +kernel⟩
theorem tw_794 : (Jvm.Cond.instanceMethod ({ cls := "GraphNamerModel", name := "alike", desc := "(II)Z" } : Jvm.MethodName)) ∈ tm_ws := List.mem_filter.mpr ⟨List.mem_of_getElem? (i := 794) (by decide +kernel), by decide +kernel⟩
theorem tw_795 : (Jvm.Cond.code ({ cls := "GraphNamerModel", name := "alike", desc := "(II)Z" } : Jvm.MethodName) prog_7_method_43_code (5 : Nat) (Option.some Jvm.ClassFile.FieldType.boolean)) ∈ tm_ws := List.mem_filter.mpr ⟨List.mem_of_getElem? (i := 795) (by decide +kernel), by decide +kernel⟩
theorem tw_796 : (Jvm.Cond.methodLink "GraphNamerLaw" (155 : Nat) ({ cls := "GraphNamerModel", name := "match", desc := "(III)I" } : Jvm.MethodName)) ∈ tm_ws := List.mem_filter.mpr ⟨List.mem_of_getElem? (i := 796) (by decide +kernel), by decide +kernel⟩
theorem tw_797 : (Jvm.Cond.instanceMethod ({ cls := "GraphNamerModel", name := "match", desc := "(III)I" } : Jvm.MethodName)) ∈ tm_ws := List.mem_filter.mpr ⟨List.mem_of_getElem? (i := 797) (by decide +kernel), by decide +kernel⟩
theorem tw_798 : (Jvm.Cond.selects "GraphNamerModel" ({ cls := "GraphNamerModel", name := "match", desc := "(III)I" } : Jvm.MethodName) ({ cls := "GraphNamerModel", name := "match", desc := "(III)I" } : Jvm.MethodName)) ∈ tm_ws := List.mem_filter.mpr ⟨List.mem_of_getElem? (i := 798) (by decide +kernel), by decide +kernel⟩
theorem tw_799 : (Jvm.Cond.code ({ cls := "GraphNamerModel", name := "match", desc := "(III)I" } : Jvm.MethodName) prog_7_method_45_code (5 : Nat) (Option.some Jvm.ClassFile.FieldType.int)) ∈ tm_ws := List.mem_filter.mpr ⟨List.mem_of_getElem? (i := 799) (by decide +kernel), by decide +kernel⟩
theorem tw_800 : (Jvm.Cond.methodLink "GraphNamerLaw" (159 : Nat) ({ cls := "GraphNamerModel", name := "moves", desc := "(IIII)Z" } : Jvm.MethodName)) ∈ tm_ws := List.mem_filter.mpr ⟨List.mem_of_getElem? (i := 800) (by decide +kernel), by decide +kernel⟩
theorem tw_801 : (Jvm.Cond.instanceMethod ({ cls := "GraphNamerModel", name := "moves", desc := "(IIII)Z" } : Jvm.MethodName)) ∈ tm_ws := List.mem_filter.mpr ⟨List.mem_of_getElem? (i := 801) (by decide +kernel), by decide +kernel⟩
theorem tw_802 : (Jvm.Cond.selects "GraphNamerModel" ({ cls := "GraphNamerModel", name := "moves", desc := "(IIII)Z" } : Jvm.MethodName) ({ cls := "GraphNamerModel", name := "moves", desc := "(IIII)Z" } : Jvm.MethodName)) ∈ tm_ws := List.mem_filter.mpr ⟨List.mem_of_getElem? (i := 802) (by decide +kernel), by decide +kernel⟩
theorem tw_803 : (Jvm.Cond.code ({ cls := "GraphNamerModel", name := "moves", desc := "(IIII)Z" } : Jvm.MethodName) prog_7_method_46_code (5 : Nat) (Option.some Jvm.ClassFile.FieldType.boolean)) ∈ tm_ws := List.mem_filter.mpr ⟨List.mem_of_getElem? (i := 803) (by decide +kernel), by decide +kernel⟩
theorem tu_N : ∀ w ∈ u_ws C_N T_N 6, w ∈ tm_ws := by
  intro w hw
  obtain ⟨k, hk, rfl⟩ := List.mem_map.mp hw
  have hk := List.mem_range.mp hk
  rcases (show k = 0 ∨ k = 1 ∨ k = 2 ∨ k = 3 ∨ k = 4 ∨ k = 5 by omega) with rfl | rfl | rfl | rfl | rfl | rfl
  · exact tw_139
  · exact tw_141
  · exact tw_143
  · exact tw_145
  · exact tw_147
  · exact tw_149
theorem tu_G : ∀ w ∈ u_ws C_G T_G 3, w ∈ tm_ws := by
  intro w hw
  obtain ⟨k, hk, rfl⟩ := List.mem_map.mp hw
  have hk := List.mem_range.mp hk
  rcases (show k = 0 ∨ k = 1 ∨ k = 2 by omega) with rfl | rfl | rfl
  · exact tw_79
  · exact tw_81
  · exact tw_83
theorem tu_U : ∀ w ∈ u_ws C_U T_U 4, w ∈ tm_ws := by
  intro w hw
  obtain ⟨k, hk, rfl⟩ := List.mem_map.mp hw
  have hk := List.mem_range.mp hk
  rcases (show k = 0 ∨ k = 1 ∨ k = 2 ∨ k = 3 by omega) with rfl | rfl | rfl | rfl
  · exact tw_100
  · exact tw_102
  · exact tw_104
  · exact tw_106
theorem tu_Y : ∀ w ∈ u_ws C_Y T_Y 1, w ∈ tm_ws := by
  intro w hw
  obtain ⟨k, hk, rfl⟩ := List.mem_map.mp hw
  have hk := List.mem_range.mp hk
  rcases (show k = 0 by omega) with rfl
  · exact tw_116
theorem tu_P : ∀ w ∈ u_ws C_P T_P 2, w ∈ tm_ws := by
  intro w hw
  obtain ⟨k, hk, rfl⟩ := List.mem_map.mp hw
  have hk := List.mem_range.mp hk
  rcases (show k = 0 ∨ k = 1 by omega) with rfl | rfl
  · exact tw_128
  · exact tw_130
theorem tu_R : ∀ w ∈ u_ws C_R T_R 13, w ∈ tm_ws := by
  intro w hw
  obtain ⟨k, hk, rfl⟩ := List.mem_map.mp hw
  have hk := List.mem_range.mp hk
  rcases (show k = 0 ∨ k = 1 ∨ k = 2 ∨ k = 3 ∨ k = 4 ∨ k = 5 ∨ k = 6 ∨ k = 7 ∨ k = 8 ∨ k = 9 ∨ k = 10 ∨ k = 11 ∨ k = 12 by omega) with rfl | rfl | rfl | rfl | rfl | rfl | rfl | rfl | rfl | rfl | rfl | rfl | rfl
  · exact tw_597
  · exact tw_599
  · exact tw_601
  · exact tw_603
  · exact tw_605
  · exact tw_607
  · exact tw_609
  · exact tw_611
  · exact tw_613
  · exact tw_615
  · exact tw_617
  · exact tw_619
  · exact tw_621
def tm_fok (q : String × Nat × Nat × Nat) : Prop := ∃ (C : String) (T : u_T) (N : Nat) (ty : Nat → FieldType), tm_cl[q.2.2.1]? = some (C, T, N) ∧ q.2.2.2 < N ∧ (∀ w ∈ u_ws C T N, w ∈ tm_ws) ∧ (∀ k, k < N → parseFieldDescriptor (T k).2.2.1 = some (ty k)) ∧ (∀ a, a < N → ∀ b, b < N → a ≠ b → (T a).2.1 ≠ (T b).2.1) ∧ (Cond.fieldLink q.1 q.2.1 (T q.2.2.2).1 (T q.2.2.2).2.1 (T q.2.2.2).2.2.1 ∈ tm_ws ∨ ∃ host, Cond.fieldLinkNest q.1 q.2.1 (T q.2.2.2).1 (T q.2.2.2).2.1 (T q.2.2.2).2.2.1 host ∈ tm_ws)
def tm_fls : List (String × Nat × Nat × Nat) := [("GraphNamer", 11, 0, 0), ("GraphNamer", 16, 0, 1), ("GraphNamer", 23, 0, 2), ("GraphNamer", 27, 0, 3), ("GraphNamer", 33, 0, 4), ("GraphNamer", 40, 0, 5), ("GraphNamer", 52, 1, 0), ("GraphNamer", 71, 1, 1), ("GraphNamer", 105, 2, 1), ("GraphNamer", 112, 2, 2), ("GraphNamer", 115, 1, 2), ("GraphNamer", 118, 2, 0), ("GraphNamer", 137, 4, 0), ("GraphNamer$Graph", 9, 1, 0), ("GraphNamer$Graph", 15, 1, 1), ("GraphNamer$Graph", 19, 1, 2), ("GraphNamer$Laying", 9, 3, 0), ("GraphNamer$Laying", 15, 1, 0), ("GraphNamer$Laying", 45, 1, 1), ("GraphNamer$Numbering", 9, 2, 0), ("GraphNamer$Numbering", 15, 2, 1), ("GraphNamer$Numbering", 19, 2, 2), ("GraphNamer$Numbering", 22, 2, 3), ("GraphNamer$Numbering", 38, 1, 0), ("GraphNamer$Parting", 9, 4, 0), ("GraphNamer$Parting", 15, 4, 1), ("GraphNamer$Parting", 18, 1, 0), ("GraphNamer$Parting", 24, 1, 1), ("GraphNamer$Parting", 47, 1, 2), ("GraphNamerModel", 7, 5, 1), ("GraphNamerModel", 13, 5, 2), ("GraphNamerModel", 16, 5, 3), ("GraphNamerModel", 20, 5, 4), ("GraphNamerModel", 23, 5, 5), ("GraphNamerModel", 26, 5, 7), ("GraphNamerModel", 29, 5, 9), ("GraphNamerModel", 32, 5, 10), ("GraphNamerModel", 35, 5, 11), ("GraphNamerModel", 38, 5, 12), ("GraphNamerModel", 41, 5, 0), ("GraphNamerModel", 83, 5, 6), ("GraphNamerModel", 124, 5, 8)]
theorem tf_0 : tm_fok ("GraphNamer", 11, 0, 0) := ⟨C_N, T_N, 6, ty_N, rfl, by decide, tu_N, tp_N, tn_N, Or.inl tw_133⟩
theorem tf_1 : tm_fok ("GraphNamer", 16, 0, 1) := ⟨C_N, T_N, 6, ty_N, rfl, by decide, tu_N, tp_N, tn_N, Or.inl tw_134⟩
theorem tf_2 : tm_fok ("GraphNamer", 23, 0, 2) := ⟨C_N, T_N, 6, ty_N, rfl, by decide, tu_N, tp_N, tn_N, Or.inl tw_135⟩
theorem tf_3 : tm_fok ("GraphNamer", 27, 0, 3) := ⟨C_N, T_N, 6, ty_N, rfl, by decide, tu_N, tp_N, tn_N, Or.inl tw_136⟩
theorem tf_4 : tm_fok ("GraphNamer", 33, 0, 4) := ⟨C_N, T_N, 6, ty_N, rfl, by decide, tu_N, tp_N, tn_N, Or.inl tw_137⟩
theorem tf_5 : tm_fok ("GraphNamer", 40, 0, 5) := ⟨C_N, T_N, 6, ty_N, rfl, by decide, tu_N, tp_N, tn_N, Or.inl tw_138⟩
theorem tf_6 : tm_fok ("GraphNamer", 52, 1, 0) := ⟨C_G, T_G, 3, ty_G, rfl, by decide, tu_G, tp_G, tn_G, Or.inl tw_69⟩
theorem tf_7 : tm_fok ("GraphNamer", 71, 1, 1) := ⟨C_G, T_G, 3, ty_G, rfl, by decide, tu_G, tp_G, tn_G, Or.inl tw_74⟩
theorem tf_8 : tm_fok ("GraphNamer", 105, 2, 1) := ⟨C_U, T_U, 4, ty_U, rfl, by decide, tu_U, tp_U, tn_U, Or.inl tw_96⟩
theorem tf_9 : tm_fok ("GraphNamer", 112, 2, 2) := ⟨C_U, T_U, 4, ty_U, rfl, by decide, tu_U, tp_U, tn_U, Or.inl tw_98⟩
theorem tf_10 : tm_fok ("GraphNamer", 115, 1, 2) := ⟨C_G, T_G, 3, ty_G, rfl, by decide, tu_G, tp_G, tn_G, Or.inl tw_78⟩
theorem tf_11 : tm_fok ("GraphNamer", 118, 2, 0) := ⟨C_U, T_U, 4, ty_U, rfl, by decide, tu_U, tp_U, tn_U, Or.inl tw_94⟩
theorem tf_12 : tm_fok ("GraphNamer", 137, 4, 0) := ⟨C_P, T_P, 2, ty_P, rfl, by decide, tu_P, tp_P, tn_P, Or.inl tw_126⟩
theorem tf_13 : tm_fok ("GraphNamer$Graph", 9, 1, 0) := ⟨C_G, T_G, 3, ty_G, rfl, by decide, tu_G, tp_G, tn_G, Or.inl tw_67⟩
theorem tf_14 : tm_fok ("GraphNamer$Graph", 15, 1, 1) := ⟨C_G, T_G, 3, ty_G, rfl, by decide, tu_G, tp_G, tn_G, Or.inl tw_72⟩
theorem tf_15 : tm_fok ("GraphNamer$Graph", 19, 1, 2) := ⟨C_G, T_G, 3, ty_G, rfl, by decide, tu_G, tp_G, tn_G, Or.inl tw_76⟩
theorem tf_16 : tm_fok ("GraphNamer$Laying", 9, 3, 0) := ⟨C_Y, T_Y, 1, ty_Y, rfl, by decide, tu_Y, tp_Y, tn_Y, Or.inl tw_115⟩
theorem tf_17 : tm_fok ("GraphNamer$Laying", 15, 1, 0) := ⟨C_G, T_G, 3, ty_G, rfl, by decide, tu_G, tp_G, tn_G, Or.inl tw_70⟩
theorem tf_18 : tm_fok ("GraphNamer$Laying", 45, 1, 1) := ⟨C_G, T_G, 3, ty_G, rfl, by decide, tu_G, tp_G, tn_G, Or.inl tw_75⟩
theorem tf_19 : tm_fok ("GraphNamer$Numbering", 9, 2, 0) := ⟨C_U, T_U, 4, ty_U, rfl, by decide, tu_U, tp_U, tn_U, Or.inl tw_93⟩
theorem tf_20 : tm_fok ("GraphNamer$Numbering", 15, 2, 1) := ⟨C_U, T_U, 4, ty_U, rfl, by decide, tu_U, tp_U, tn_U, Or.inl tw_95⟩
theorem tf_21 : tm_fok ("GraphNamer$Numbering", 19, 2, 2) := ⟨C_U, T_U, 4, ty_U, rfl, by decide, tu_U, tp_U, tn_U, Or.inl tw_97⟩
theorem tf_22 : tm_fok ("GraphNamer$Numbering", 22, 2, 3) := ⟨C_U, T_U, 4, ty_U, rfl, by decide, tu_U, tp_U, tn_U, Or.inl tw_99⟩
theorem tf_23 : tm_fok ("GraphNamer$Numbering", 38, 1, 0) := ⟨C_G, T_G, 3, ty_G, rfl, by decide, tu_G, tp_G, tn_G, Or.inl tw_71⟩
theorem tf_24 : tm_fok ("GraphNamer$Parting", 9, 4, 0) := ⟨C_P, T_P, 2, ty_P, rfl, by decide, tu_P, tp_P, tn_P, Or.inl tw_125⟩
theorem tf_25 : tm_fok ("GraphNamer$Parting", 15, 4, 1) := ⟨C_P, T_P, 2, ty_P, rfl, by decide, tu_P, tp_P, tn_P, Or.inl tw_127⟩
theorem tf_26 : tm_fok ("GraphNamer$Parting", 18, 1, 0) := ⟨C_G, T_G, 3, ty_G, rfl, by decide, tu_G, tp_G, tn_G, Or.inl tw_68⟩
theorem tf_27 : tm_fok ("GraphNamer$Parting", 24, 1, 1) := ⟨C_G, T_G, 3, ty_G, rfl, by decide, tu_G, tp_G, tn_G, Or.inl tw_73⟩
theorem tf_28 : tm_fok ("GraphNamer$Parting", 47, 1, 2) := ⟨C_G, T_G, 3, ty_G, rfl, by decide, tu_G, tp_G, tn_G, Or.inl tw_77⟩
theorem tf_29 : tm_fok ("GraphNamerModel", 7, 5, 1) := ⟨C_R, T_R, 13, ty_R, rfl, by decide, tu_R, tp_R, tn_R, Or.inl tw_585⟩
theorem tf_30 : tm_fok ("GraphNamerModel", 13, 5, 2) := ⟨C_R, T_R, 13, ty_R, rfl, by decide, tu_R, tp_R, tn_R, Or.inl tw_586⟩
theorem tf_31 : tm_fok ("GraphNamerModel", 16, 5, 3) := ⟨C_R, T_R, 13, ty_R, rfl, by decide, tu_R, tp_R, tn_R, Or.inl tw_587⟩
theorem tf_32 : tm_fok ("GraphNamerModel", 20, 5, 4) := ⟨C_R, T_R, 13, ty_R, rfl, by decide, tu_R, tp_R, tn_R, Or.inl tw_588⟩
theorem tf_33 : tm_fok ("GraphNamerModel", 23, 5, 5) := ⟨C_R, T_R, 13, ty_R, rfl, by decide, tu_R, tp_R, tn_R, Or.inl tw_589⟩
theorem tf_34 : tm_fok ("GraphNamerModel", 26, 5, 7) := ⟨C_R, T_R, 13, ty_R, rfl, by decide, tu_R, tp_R, tn_R, Or.inl tw_591⟩
theorem tf_35 : tm_fok ("GraphNamerModel", 29, 5, 9) := ⟨C_R, T_R, 13, ty_R, rfl, by decide, tu_R, tp_R, tn_R, Or.inl tw_593⟩
theorem tf_36 : tm_fok ("GraphNamerModel", 32, 5, 10) := ⟨C_R, T_R, 13, ty_R, rfl, by decide, tu_R, tp_R, tn_R, Or.inl tw_594⟩
theorem tf_37 : tm_fok ("GraphNamerModel", 35, 5, 11) := ⟨C_R, T_R, 13, ty_R, rfl, by decide, tu_R, tp_R, tn_R, Or.inl tw_595⟩
theorem tf_38 : tm_fok ("GraphNamerModel", 38, 5, 12) := ⟨C_R, T_R, 13, ty_R, rfl, by decide, tu_R, tp_R, tn_R, Or.inl tw_596⟩
theorem tf_39 : tm_fok ("GraphNamerModel", 41, 5, 0) := ⟨C_R, T_R, 13, ty_R, rfl, by decide, tu_R, tp_R, tn_R, Or.inl tw_584⟩
theorem tf_40 : tm_fok ("GraphNamerModel", 83, 5, 6) := ⟨C_R, T_R, 13, ty_R, rfl, by decide, tu_R, tp_R, tn_R, Or.inl tw_590⟩
theorem tf_41 : tm_fok ("GraphNamerModel", 124, 5, 8) := ⟨C_R, T_R, 13, ty_R, rfl, by decide, tu_R, tp_R, tn_R, Or.inl tw_592⟩
theorem tm_fls_ok : ∀ q ∈ tm_fls, tm_fok q := List.forall_mem_cons.mpr ⟨tf_0, List.forall_mem_cons.mpr ⟨tf_1, List.forall_mem_cons.mpr ⟨tf_2, List.forall_mem_cons.mpr ⟨tf_3, List.forall_mem_cons.mpr ⟨tf_4, List.forall_mem_cons.mpr ⟨tf_5, List.forall_mem_cons.mpr ⟨tf_6, List.forall_mem_cons.mpr ⟨tf_7, List.forall_mem_cons.mpr ⟨tf_8, List.forall_mem_cons.mpr ⟨tf_9, List.forall_mem_cons.mpr ⟨tf_10, List.forall_mem_cons.mpr ⟨tf_11, List.forall_mem_cons.mpr ⟨tf_12, List.forall_mem_cons.mpr ⟨tf_13, List.forall_mem_cons.mpr ⟨tf_14, List.forall_mem_cons.mpr ⟨tf_15, List.forall_mem_cons.mpr ⟨tf_16, List.forall_mem_cons.mpr ⟨tf_17, List.forall_mem_cons.mpr ⟨tf_18, List.forall_mem_cons.mpr ⟨tf_19, List.forall_mem_cons.mpr ⟨tf_20, List.forall_mem_cons.mpr ⟨tf_21, List.forall_mem_cons.mpr ⟨tf_22, List.forall_mem_cons.mpr ⟨tf_23, List.forall_mem_cons.mpr ⟨tf_24, List.forall_mem_cons.mpr ⟨tf_25, List.forall_mem_cons.mpr ⟨tf_26, List.forall_mem_cons.mpr ⟨tf_27, List.forall_mem_cons.mpr ⟨tf_28, List.forall_mem_cons.mpr ⟨tf_29, List.forall_mem_cons.mpr ⟨tf_30, List.forall_mem_cons.mpr ⟨tf_31, List.forall_mem_cons.mpr ⟨tf_32, List.forall_mem_cons.mpr ⟨tf_33, List.forall_mem_cons.mpr ⟨tf_34, List.forall_mem_cons.mpr ⟨tf_35, List.forall_mem_cons.mpr ⟨tf_36, List.forall_mem_cons.mpr ⟨tf_37, List.forall_mem_cons.mpr ⟨tf_38, List.forall_mem_cons.mpr ⟨tf_39, List.forall_mem_cons.mpr ⟨tf_40, List.forall_mem_cons.mpr ⟨tf_41, fun _ h => absurd h List.not_mem_nil⟩⟩⟩⟩⟩⟩⟩⟩⟩⟩⟩⟩⟩⟩⟩⟩⟩⟩⟩⟩⟩⟩⟩⟩⟩⟩⟩⟩⟩⟩⟩⟩⟩⟩⟩⟩⟩⟩⟩⟩⟩⟩
def tm_fl (own : String) (i : Nat) : Option (Nat × Nat) := (tm_fls.find? (fun q => q.1 == own && q.2.1 == i)).map (fun q => q.2.2)
theorem tm_find_of {α : Type} {l : List (String × Nat × α)} {own : String} {i : Nat} {v : α} (h : (l.find? (fun q => q.1 == own && q.2.1 == i)).map (fun q => q.2.2) = some v) : (own, i, v) ∈ l := by
  cases hf : l.find? (fun q => q.1 == own && q.2.1 == i) with
  | none => rw [hf] at h; cases h
  | some q =>
    rw [hf] at h
    have h1 := List.find?_some hf
    have h2 := List.mem_of_find?_eq_some hf
    simp only [Bool.and_eq_true, beq_iff_eq] at h1
    have h3 : q.2.2 = v := Option.some.inj h
    have h4 : q = (own, i, v) := by
      rw [← h1.1, ← h1.2, ← h3]
    rw [← h4]; exact h2
theorem tm_fl_ok {own : String} {i ci j : Nat} (h : tm_fl own i = some (ci, j)) : tm_fok (own, i, ci, j) := tm_fls_ok _ (tm_find_of h)
def tm_fps : List (String × Nat × Nat × Nat × Bool) := [("GraphNamer", 52, 1, 0, true), ("GraphNamer$Graph", 9, 1, 0, true), ("GraphNamer$Numbering", 9, 2, 0, true), ("GraphNamer$Parting", 9, 4, 0, false), ("GraphNamer$Parting", 15, 4, 1, false), ("GraphNamerModel", 41, 5, 0, true), ("GraphNamerModel", 83, 5, 6, true), ("GraphNamerModel", 124, 5, 8, true)]
def tm_fp (own : String) (i : Nat) : Option (Nat × Nat × Bool) := (tm_fps.find? (fun q => q.1 == own && q.2.1 == i)).map (fun q => q.2.2)
def tm_fpok (q : String × Nat × Nat × Nat × Bool) : Prop := ∃ (C : String) (T : u_T) (N : Nat) (ty : Nat → FieldType), tm_cl[q.2.2.1]? = some (C, T, N) ∧ q.2.2.2.1 < N ∧ (∀ w ∈ u_ws C T N, w ∈ tm_ws) ∧ (∀ k, k < N → parseFieldDescriptor (T k).2.2.1 = some (ty k)) ∧ (∀ a, a < N → ∀ b, b < N → a ≠ b → (T a).2.1 ≠ (T b).2.1) ∧ (Cond.fieldLink q.1 q.2.1 (T q.2.2.2.1).1 (T q.2.2.2.1).2.1 (T q.2.2.2.1).2.2.1 ∈ tm_ws ∨ ∃ host, Cond.fieldLinkNest q.1 q.2.1 (T q.2.2.2.1).1 (T q.2.2.2.1).2.1 (T q.2.2.2.1).2.2.1 host ∈ tm_ws) ∧ (T q.2.2.2.1).2.2.2 = false ∧ (bif q.2.2.2.2 then ty q.2.2.2.1 = .int else ty q.2.2.2.1 = .array .int)
theorem tg_0 : tm_fpok ("GraphNamer", 52, 1, 0, true) := ⟨C_G, T_G, 3, ty_G, rfl, by decide, tu_G, tp_G, tn_G, Or.inl tw_69, rfl, rfl⟩
theorem tg_1 : tm_fpok ("GraphNamer$Graph", 9, 1, 0, true) := ⟨C_G, T_G, 3, ty_G, rfl, by decide, tu_G, tp_G, tn_G, Or.inl tw_67, rfl, rfl⟩
theorem tg_2 : tm_fpok ("GraphNamer$Numbering", 9, 2, 0, true) := ⟨C_U, T_U, 4, ty_U, rfl, by decide, tu_U, tp_U, tn_U, Or.inl tw_93, rfl, rfl⟩
theorem tg_3 : tm_fpok ("GraphNamer$Parting", 9, 4, 0, false) := ⟨C_P, T_P, 2, ty_P, rfl, by decide, tu_P, tp_P, tn_P, Or.inl tw_125, rfl, rfl⟩
theorem tg_4 : tm_fpok ("GraphNamer$Parting", 15, 4, 1, false) := ⟨C_P, T_P, 2, ty_P, rfl, by decide, tu_P, tp_P, tn_P, Or.inl tw_127, rfl, rfl⟩
theorem tg_5 : tm_fpok ("GraphNamerModel", 41, 5, 0, true) := ⟨C_R, T_R, 13, ty_R, rfl, by decide, tu_R, tp_R, tn_R, Or.inl tw_584, rfl, rfl⟩
theorem tg_6 : tm_fpok ("GraphNamerModel", 83, 5, 6, true) := ⟨C_R, T_R, 13, ty_R, rfl, by decide, tu_R, tp_R, tn_R, Or.inl tw_590, rfl, rfl⟩
theorem tg_7 : tm_fpok ("GraphNamerModel", 124, 5, 8, true) := ⟨C_R, T_R, 13, ty_R, rfl, by decide, tu_R, tp_R, tn_R, Or.inl tw_592, rfl, rfl⟩
theorem tm_fps_ok : ∀ q ∈ tm_fps, tm_fpok q := List.forall_mem_cons.mpr ⟨tg_0, List.forall_mem_cons.mpr ⟨tg_1, List.forall_mem_cons.mpr ⟨tg_2, List.forall_mem_cons.mpr ⟨tg_3, List.forall_mem_cons.mpr ⟨tg_4, List.forall_mem_cons.mpr ⟨tg_5, List.forall_mem_cons.mpr ⟨tg_6, List.forall_mem_cons.mpr ⟨tg_7, fun _ h => absurd h List.not_mem_nil⟩⟩⟩⟩⟩⟩⟩⟩
theorem tm_fp_ok {own : String} {i ci j : Nat} {b : Bool} (h : tm_fp own i = some (ci, j, b)) : tm_fpok (own, i, ci, j, b) := tm_fps_ok _ (tm_find_of h)
def tm_cns : List (String × Nat × Int32) := [("java/lang/Integer", 265, 1431655765), ("java/lang/Integer", 266, 858993459), ("java/lang/Integer", 267, 252645135), ("GraphNamer$Numbering", 27, 2147483647)]
def tm_cn (own : String) (i : Nat) : Option Int32 := (tm_cns.find? (fun q => q.1 == own && q.2.1 == i)).map (fun q => q.2.2)
theorem tm_cns_ok : ∀ q ∈ tm_cns, Cond.constant q.1 q.2.1 q.2.2 ∈ tm_ws := List.forall_mem_cons.mpr ⟨tw_320, List.forall_mem_cons.mpr ⟨tw_321, List.forall_mem_cons.mpr ⟨tw_322, List.forall_mem_cons.mpr ⟨tw_375, fun _ h => absurd h List.not_mem_nil⟩⟩⟩⟩
theorem tm_cn_ok {own : String} {i : Nat} {v : Int32} (h : tm_cn own i = some v) : Cond.constant own i v ∈ tm_ws := tm_cns_ok _ (tm_find_of h)
abbrev tm_M : Type := String × MethodName × ByteArray × Nat × Option FieldType × List (Nat × Nat × Nat × Nat)
def M_N_init : tm_M := ("GraphNamer", ⟨"GraphNamer", "<init>", "()V"⟩, prog_1_method_1_code, 2, none, [])
def M_N_vertex : tm_M := ("GraphNamer", ⟨"GraphNamer", "vertex", "(II)I"⟩, prog_1_method_2_code, 4, (some .int), [])
def M_N_paint : tm_M := ("GraphNamer", ⟨"GraphNamer", "paint", "(III)I"⟩, prog_1_method_3_code, 6, (some .int), [])
def M_N_join : tm_M := ("GraphNamer", ⟨"GraphNamer", "join", "(III)I"⟩, prog_1_method_4_code, 5, (some .int), [])
def M_N_part : tm_M := ("GraphNamer", ⟨"GraphNamer", "part", "(III)I"⟩, prog_1_method_5_code, 5, (some .int), [])
def M_N_clear : tm_M := ("GraphNamer", ⟨"GraphNamer", "clear", "(I)I"⟩, prog_1_method_6_code, 4, (some .int), [])
def M_N_copy : tm_M := ("GraphNamer", ⟨"GraphNamer", "copy", "(II)I"⟩, prog_1_method_7_code, 4, (some .int), [])
def M_N_turn : tm_M := ("GraphNamer", ⟨"GraphNamer", "turn", "(I)I"⟩, prog_1_method_8_code, 3, (some .int), [])
def M_N_settle : tm_M := ("GraphNamer", ⟨"GraphNamer", "settle", "(I)I"⟩, prog_1_method_9_code, 5, (some .int), [])
def M_N_size : tm_M := ("GraphNamer", ⟨"GraphNamer", "size", "(I)I"⟩, prog_1_method_10_code, 2, (some .int), [])
def M_N_beside : tm_M := ("GraphNamer", ⟨"GraphNamer", "beside", "(II)I"⟩, prog_1_method_11_code, 3, (some .int), [])
def M_N_name : tm_M := ("GraphNamer", ⟨"GraphNamer", "name", "(I)I"⟩, prog_1_method_12_code, 2, (some .int), [])
def M_N_place : tm_M := ("GraphNamer", ⟨"GraphNamer", "place", "(II)I"⟩, prog_1_method_13_code, 3, (some .int), [])
def M_N_automorphisms : tm_M := ("GraphNamer", ⟨"GraphNamer", "automorphisms", "(I)I"⟩, prog_1_method_14_code, 2, (some .int), [])
def M_N_fixing : tm_M := ("GraphNamer", ⟨"GraphNamer", "fixing", "(II)I"⟩, prog_1_method_15_code, 4, (some .int), [])
def M_N_orbit : tm_M := ("GraphNamer", ⟨"GraphNamer", "orbit", "(II)I"⟩, prog_1_method_16_code, 3, (some .int), [])
def M_N_orbits : tm_M := ("GraphNamer", ⟨"GraphNamer", "orbits", "(I)I"⟩, prog_1_method_17_code, 6, (some .int), [])
def M_N_cell : tm_M := ("GraphNamer", ⟨"GraphNamer", "cell", "(II)I"⟩, prog_1_method_18_code, 3, (some .int), [])
def M_N_cells : tm_M := ("GraphNamer", ⟨"GraphNamer", "cells", "(I)I"⟩, prog_1_method_19_code, 5, (some .int), [])
def M_N_same : tm_M := ("GraphNamer", ⟨"GraphNamer", "same", "(II)Z"⟩, prog_1_method_20_code, 3, (some .boolean), [])
def M_N_match : tm_M := ("GraphNamer", ⟨"GraphNamer", "match", "(III)I"⟩, prog_1_method_21_code, 4, (some .int), [])
def M_N_moves : tm_M := ("GraphNamer", ⟨"GraphNamer", "moves", "(IIII)Z"⟩, prog_1_method_22_code, 6, (some .boolean), [])
def M_N_graphOf : tm_M := ("GraphNamer", ⟨"GraphNamer", "graphOf", "(I)LGraphNamer$Graph;"⟩, prog_1_method_23_code, 2, (some (.object "GraphNamer$Graph")), [])
def M_N_graphWith : tm_M := ("GraphNamer", ⟨"GraphNamer", "graphWith", "(II)LGraphNamer$Graph;"⟩, prog_1_method_24_code, 4, (some (.object "GraphNamer$Graph")), [])
def M_N_graphWithPair : tm_M := ("GraphNamer", ⟨"GraphNamer", "graphWithPair", "(III)LGraphNamer$Graph;"⟩, prog_1_method_25_code, 5, (some (.object "GraphNamer$Graph")), [])
def M_N_needVertex : tm_M := ("GraphNamer", ⟨"GraphNamer", "needVertex", "(LGraphNamer$Graph;I)V"⟩, prog_1_method_26_code, 2, none, [])
def M_N_needSet : tm_M := ("GraphNamer", ⟨"GraphNamer", "needSet", "(LGraphNamer$Graph;I)V"⟩, prog_1_method_27_code, 2, none, [])
def M_N_needColour : tm_M := ("GraphNamer", ⟨"GraphNamer", "needColour", "(I)V"⟩, prog_1_method_28_code, 1, none, [])
def M_N_alike : tm_M := ("GraphNamer", ⟨"GraphNamer", "alike", "(LGraphNamer$Graph;LGraphNamer$Graph;)Z"⟩, prog_1_method_29_code, 3, (some .boolean), [])
def M_N_contains : tm_M := ("GraphNamer", ⟨"GraphNamer", "contains", "(II)Z"⟩, prog_1_method_30_code, 2, (some .boolean), [])
def M_N_isLeast : tm_M := ("GraphNamer", ⟨"GraphNamer", "isLeast", "(II)Z"⟩, prog_1_method_31_code, 2, (some .boolean), [])
def M_R_init : tm_M := ("GraphNamerModel", ⟨"GraphNamerModel", "<init>", "()V"⟩, prog_7_method_1_code, 1, none, [])
def M_R_thrown : tm_M := ("GraphNamerModel", ⟨"GraphNamerModel", "thrown", "()I"⟩, prog_7_method_2_code, 1, (some .int), [])
def M_R_refused : tm_M := ("GraphNamerModel", ⟨"GraphNamerModel", "refused", "(I)Z"⟩, prog_7_method_3_code, 2, (some .boolean), [])
def M_R_noGraph : tm_M := ("GraphNamerModel", ⟨"GraphNamerModel", "noGraph", "(I)Z"⟩, prog_7_method_4_code, 1, (some .boolean), [])
def M_R_noVertex : tm_M := ("GraphNamerModel", ⟨"GraphNamerModel", "noVertex", "(II)Z"⟩, prog_7_method_5_code, 3, (some .boolean), [])
def M_R_strange : tm_M := ("GraphNamerModel", ⟨"GraphNamerModel", "strange", "(II)Z"⟩, prog_7_method_6_code, 3, (some .boolean), [])
def M_R_colourOf : tm_M := ("GraphNamerModel", ⟨"GraphNamerModel", "colourOf", "(II)I"⟩, prog_7_method_7_code, 3, (some .int), [])
def M_R_isEdge : tm_M := ("GraphNamerModel", ⟨"GraphNamerModel", "isEdge", "(III)Z"⟩, prog_7_method_8_code, 4, (some .boolean), [])
def M_R_set : tm_M := ("GraphNamerModel", ⟨"GraphNamerModel", "set", "(IIIZ)V"⟩, prog_7_method_9_code, 5, none, [])
def M_R_edges : tm_M := ("GraphNamerModel", ⟨"GraphNamerModel", "edges", "(I)I"⟩, prog_7_method_10_code, 5, (some .int), [])
def M_R_vertex : tm_M := ("GraphNamerModel", ⟨"GraphNamerModel", "vertex", "(II)I"⟩, prog_7_method_11_code, 5, (some .int), [])
def M_R_paint : tm_M := ("GraphNamerModel", ⟨"GraphNamerModel", "paint", "(III)I"⟩, prog_7_method_12_code, 5, (some .int), [])
def M_R_join : tm_M := ("GraphNamerModel", ⟨"GraphNamerModel", "join", "(III)I"⟩, prog_7_method_13_code, 4, (some .int), [])
def M_R_part : tm_M := ("GraphNamerModel", ⟨"GraphNamerModel", "part", "(III)I"⟩, prog_7_method_14_code, 4, (some .int), [])
def M_R_clear : tm_M := ("GraphNamerModel", ⟨"GraphNamerModel", "clear", "(I)I"⟩, prog_7_method_15_code, 3, (some .int), [])
def M_R_copy : tm_M := ("GraphNamerModel", ⟨"GraphNamerModel", "copy", "(II)I"⟩, prog_7_method_16_code, 4, (some .int), [])
def M_R_turn : tm_M := ("GraphNamerModel", ⟨"GraphNamerModel", "turn", "(I)I"⟩, prog_7_method_17_code, 4, (some .int), [])
def M_R_settle : tm_M := ("GraphNamerModel", ⟨"GraphNamerModel", "settle", "(I)I"⟩, prog_7_method_18_code, 6, (some .int), [])
def M_R_begin : tm_M := ("GraphNamerModel", ⟨"GraphNamerModel", "begin", "()V"⟩, prog_7_method_19_code, 2, none, [])
def M_R_next : tm_M := ("GraphNamerModel", ⟨"GraphNamerModel", "next", "(I)Z"⟩, prog_7_method_20_code, 6, (some .boolean), [])
def M_R_change : tm_M := ("GraphNamerModel", ⟨"GraphNamerModel", "change", "(II)V"⟩, prog_7_method_21_code, 4, none, [])
def M_R_rises : tm_M := ("GraphNamerModel", ⟨"GraphNamerModel", "rises", "(I)Z"⟩, prog_7_method_22_code, 4, (some .boolean), [])
def M_R_code : tm_M := ("GraphNamerModel", ⟨"GraphNamerModel", "code", "(I)I"⟩, prog_7_method_23_code, 6, (some .int), [])
def M_R_seek : tm_M := ("GraphNamerModel", ⟨"GraphNamerModel", "seek", "(I)V"⟩, prog_7_method_24_code, 5, none, [])
def M_R_lays : tm_M := ("GraphNamerModel", ⟨"GraphNamerModel", "lays", "(I)Z"⟩, prog_7_method_25_code, 4, (some .boolean), [])
def M_R_keeps : tm_M := ("GraphNamerModel", ⟨"GraphNamerModel", "keeps", "(I)Z"⟩, prog_7_method_26_code, 4, (some .boolean), [])
def M_R_count : tm_M := ("GraphNamerModel", ⟨"GraphNamerModel", "count", "(IIII)I"⟩, prog_7_method_27_code, 8, (some .int), [])
def M_R_orbitOf : tm_M := ("GraphNamerModel", ⟨"GraphNamerModel", "orbitOf", "(II)I"⟩, prog_7_method_28_code, 5, (some .int), [])
def M_R_links : tm_M := ("GraphNamerModel", ⟨"GraphNamerModel", "links", "(III)I"⟩, prog_7_method_29_code, 6, (some .int), [])
def M_R_agree : tm_M := ("GraphNamerModel", ⟨"GraphNamerModel", "agree", "(III)Z"⟩, prog_7_method_30_code, 6, (some .boolean), [])
def M_R_split : tm_M := ("GraphNamerModel", ⟨"GraphNamerModel", "split", "(I)V"⟩, prog_7_method_31_code, 6, none, [])
def M_R_size : tm_M := ("GraphNamerModel", ⟨"GraphNamerModel", "size", "(I)I"⟩, prog_7_method_32_code, 2, (some .int), [])
def M_R_beside : tm_M := ("GraphNamerModel", ⟨"GraphNamerModel", "beside", "(II)I"⟩, prog_7_method_33_code, 5, (some .int), [])
def M_R_name : tm_M := ("GraphNamerModel", ⟨"GraphNamerModel", "name", "(I)I"⟩, prog_7_method_34_code, 2, (some .int), [])
def M_R_placeOf : tm_M := ("GraphNamerModel", ⟨"GraphNamerModel", "placeOf", "(I)I"⟩, prog_7_method_35_code, 3, (some .int), [])
def M_R_place : tm_M := ("GraphNamerModel", ⟨"GraphNamerModel", "place", "(II)I"⟩, prog_7_method_36_code, 3, (some .int), [])
def M_R_automorphisms : tm_M := ("GraphNamerModel", ⟨"GraphNamerModel", "automorphisms", "(I)I"⟩, prog_7_method_37_code, 2, (some .int), [])
def M_R_fixing : tm_M := ("GraphNamerModel", ⟨"GraphNamerModel", "fixing", "(II)I"⟩, prog_7_method_38_code, 3, (some .int), [])
def M_R_orbit : tm_M := ("GraphNamerModel", ⟨"GraphNamerModel", "orbit", "(II)I"⟩, prog_7_method_39_code, 3, (some .int), [])
def M_R_orbits : tm_M := ("GraphNamerModel", ⟨"GraphNamerModel", "orbits", "(I)I"⟩, prog_7_method_40_code, 4, (some .int), [])
def M_R_cell : tm_M := ("GraphNamerModel", ⟨"GraphNamerModel", "cell", "(II)I"⟩, prog_7_method_41_code, 5, (some .int), [])
def M_R_cells : tm_M := ("GraphNamerModel", ⟨"GraphNamerModel", "cells", "(I)I"⟩, prog_7_method_42_code, 4, (some .int), [])
def M_R_alike : tm_M := ("GraphNamerModel", ⟨"GraphNamerModel", "alike", "(II)Z"⟩, prog_7_method_43_code, 5, (some .boolean), [])
def M_R_same : tm_M := ("GraphNamerModel", ⟨"GraphNamerModel", "same", "(II)Z"⟩, prog_7_method_44_code, 3, (some .boolean), [])
def M_R_match : tm_M := ("GraphNamerModel", ⟨"GraphNamerModel", "match", "(III)I"⟩, prog_7_method_45_code, 5, (some .int), [])
def M_R_moves : tm_M := ("GraphNamerModel", ⟨"GraphNamerModel", "moves", "(IIII)Z"⟩, prog_7_method_46_code, 5, (some .boolean), [])
def M_G_init : tm_M := ("GraphNamer$Graph", ⟨"GraphNamer$Graph", "<init>", "()V"⟩, prog_2_method_1_code, 1, none, [])
def M_G_addVertex : tm_M := ("GraphNamer$Graph", ⟨"GraphNamer$Graph", "addVertex", "(I)I"⟩, prog_2_method_2_code, 3, (some .int), [])
def M_G_all : tm_M := ("GraphNamer$Graph", ⟨"GraphNamer$Graph", "all", "()I"⟩, prog_2_method_3_code, 1, (some .int), [])
def M_G_linked : tm_M := ("GraphNamer$Graph", ⟨"GraphNamer$Graph", "linked", "(II)Z"⟩, prog_2_method_4_code, 3, (some .boolean), [])
def M_G_degree : tm_M := ("GraphNamer$Graph", ⟨"GraphNamer$Graph", "degree", "(I)I"⟩, prog_2_method_5_code, 2, (some .int), [])
def M_G_flipEdge : tm_M := ("GraphNamer$Graph", ⟨"GraphNamer$Graph", "flipEdge", "(II)V"⟩, prog_2_method_6_code, 3, none, [])
def M_G_flipAllEdges : tm_M := ("GraphNamer$Graph", ⟨"GraphNamer$Graph", "flipAllEdges", "()V"⟩, prog_2_method_7_code, 2, none, [])
def M_G_edges : tm_M := ("GraphNamer$Graph", ⟨"GraphNamer$Graph", "edges", "()I"⟩, prog_2_method_8_code, 3, (some .int), [])
def M_G_become : tm_M := ("GraphNamer$Graph", ⟨"GraphNamer$Graph", "become", "(LGraphNamer$Graph;)V"⟩, prog_2_method_9_code, 3, none, [])
def M_G_becomeInOrder : tm_M := ("GraphNamer$Graph", ⟨"GraphNamer$Graph", "becomeInOrder", "(LGraphNamer$Graph;[I)V"⟩, prog_2_method_10_code, 5, none, [])
def M_G_coloured : tm_M := ("GraphNamer$Graph", ⟨"GraphNamer$Graph", "coloured", "(I)I"⟩, prog_2_method_11_code, 4, (some .int), [])
def M_G_hasColoursOf : tm_M := ("GraphNamer$Graph", ⟨"GraphNamer$Graph", "hasColoursOf", "(LGraphNamer$Graph;)Z"⟩, prog_2_method_12_code, 3, (some .boolean), [])
def M_G_twins : tm_M := ("GraphNamer$Graph", ⟨"GraphNamer$Graph", "twins", "(II)Z"⟩, prog_2_method_13_code, 4, (some .boolean), [])
def M_Y_init : tm_M := ("GraphNamer$Laying", ⟨"GraphNamer$Laying", "<init>", "()V"⟩, prog_3_method_1_code, 1, none, [])
def M_Y_number : tm_M := ("GraphNamer$Laying", ⟨"GraphNamer$Laying", "number", "(LGraphNamer$Graph;I)I"⟩, prog_3_method_2_code, 6, (some .int), [])
def M_Y_reach : tm_M := ("GraphNamer$Laying", ⟨"GraphNamer$Laying", "reach", "(LGraphNamer$Graph;II)I"⟩, prog_3_method_3_code, 6, (some .int), [])
def M_Y_carries : tm_M := ("GraphNamer$Laying", ⟨"GraphNamer$Laying", "carries", "(LGraphNamer$Graph;III)Z"⟩, prog_3_method_4_code, 6, (some .boolean), [])
def M_Y_canGoOn : tm_M := ("GraphNamer$Laying", ⟨"GraphNamer$Laying", "canGoOn", "(LGraphNamer$Graph;III)Z"⟩, prog_3_method_5_code, 6, (some .boolean), [])
def M_Y_fits : tm_M := ("GraphNamer$Laying", ⟨"GraphNamer$Laying", "fits", "(LGraphNamer$Graph;III)Z"⟩, prog_3_method_6_code, 6, (some .boolean), [])
def M_U_init : tm_M := ("GraphNamer$Numbering", ⟨"GraphNamer$Numbering", "<init>", "()V"⟩, prog_4_method_1_code, 1, none, [])
def M_U_find : tm_M := ("GraphNamer$Numbering", ⟨"GraphNamer$Numbering", "find", "(LGraphNamer$Graph;)V"⟩, prog_4_method_2_code, 3, none, [])
def M_U_fill : tm_M := ("GraphNamer$Numbering", ⟨"GraphNamer$Numbering", "fill", "(LGraphNamer$Graph;III)V"⟩, prog_4_method_3_code, 9, none, [])
def M_U_keepIfLess : tm_M := ("GraphNamer$Numbering", ⟨"GraphNamer$Numbering", "keepIfLess", "(II)V"⟩, prog_4_method_4_code, 3, none, [])
def M_U_bitsBehind : tm_M := ("GraphNamer$Numbering", ⟨"GraphNamer$Numbering", "bitsBehind", "(II)I"⟩, prog_4_method_5_code, 2, (some .int), [])
def M_U_leastColoured : tm_M := ("GraphNamer$Numbering", ⟨"GraphNamer$Numbering", "leastColoured", "(LGraphNamer$Graph;I)I"⟩, prog_4_method_6_code, 4, (some .int), [])
def M_U_leastBits : tm_M := ("GraphNamer$Numbering", ⟨"GraphNamer$Numbering", "leastBits", "(LGraphNamer$Graph;II)I"⟩, prog_4_method_7_code, 6, (some .int), [])
def M_U_bitsAt : tm_M := ("GraphNamer$Numbering", ⟨"GraphNamer$Numbering", "bitsAt", "(LGraphNamer$Graph;II)I"⟩, prog_4_method_8_code, 6, (some .int), [])
def M_U_hasLesserTwin : tm_M := ("GraphNamer$Numbering", ⟨"GraphNamer$Numbering", "hasLesserTwin", "(LGraphNamer$Graph;II)Z"⟩, prog_4_method_9_code, 4, (some .boolean), [])
def M_P_init : tm_M := ("GraphNamer$Parting", ⟨"GraphNamer$Parting", "<init>", "()V"⟩, prog_5_method_1_code, 1, none, [])
def M_P_find : tm_M := ("GraphNamer$Parting", ⟨"GraphNamer$Parting", "find", "(LGraphNamer$Graph;)V"⟩, prog_5_method_2_code, 4, none, [])
def M_P_refine : tm_M := ("GraphNamer$Parting", ⟨"GraphNamer$Parting", "refine", "(LGraphNamer$Graph;)Z"⟩, prog_5_method_3_code, 4, (some .boolean), [])
def M_P_agreeing : tm_M := ("GraphNamer$Parting", ⟨"GraphNamer$Parting", "agreeing", "(LGraphNamer$Graph;I)I"⟩, prog_5_method_4_code, 5, (some .int), [])
def M_P_agree : tm_M := ("GraphNamer$Parting", ⟨"GraphNamer$Parting", "agree", "(LGraphNamer$Graph;II)Z"⟩, prog_5_method_5_code, 7, (some .boolean), [])
def M_L_vertex : tm_M := ("GraphNamerLaw", ⟨"GraphNamerLaw", "vertex", "(LGraphNamer;II[J)I"⟩, method_3_code, 5, (some .int), [(0, 10, 13, 13), (0, 10, 17, 15), (0, 10, 21, 17)])
def M_L_paint : tm_M := ("GraphNamerLaw", ⟨"GraphNamerLaw", "paint", "(LGraphNamer;III[J)I"⟩, method_4_code, 6, (some .int), [(0, 12, 15, 13), (0, 12, 19, 15)])
def M_L_join : tm_M := ("GraphNamerLaw", ⟨"GraphNamerLaw", "join", "(LGraphNamer;III[J)I"⟩, method_5_code, 6, (some .int), [(0, 12, 15, 13), (0, 12, 19, 15), (0, 12, 23, 17)])
def M_L_part : tm_M := ("GraphNamerLaw", ⟨"GraphNamerLaw", "part", "(LGraphNamer;III[J)I"⟩, method_6_code, 6, (some .int), [(0, 12, 15, 13), (0, 12, 19, 15), (0, 12, 23, 17)])
def M_L_clear : tm_M := ("GraphNamerLaw", ⟨"GraphNamerLaw", "clear", "(LGraphNamer;I[J)I"⟩, method_7_code, 4, (some .int), [(0, 9, 12, 13)])
def M_L_copy : tm_M := ("GraphNamerLaw", ⟨"GraphNamerLaw", "copy", "(LGraphNamer;II[J)I"⟩, method_8_code, 5, (some .int), [(0, 10, 13, 13)])
def M_L_turn : tm_M := ("GraphNamerLaw", ⟨"GraphNamerLaw", "turn", "(LGraphNamer;I[J)I"⟩, method_9_code, 4, (some .int), [(0, 9, 12, 13)])
def M_L_settle : tm_M := ("GraphNamerLaw", ⟨"GraphNamerLaw", "settle", "(LGraphNamer;I[J)I"⟩, method_10_code, 4, (some .int), [(0, 9, 12, 13)])
def M_L_size : tm_M := ("GraphNamerLaw", ⟨"GraphNamerLaw", "size", "(LGraphNamer;I[J)I"⟩, method_11_code, 4, (some .int), [(0, 9, 12, 13)])
def M_L_beside : tm_M := ("GraphNamerLaw", ⟨"GraphNamerLaw", "beside", "(LGraphNamer;II[J)I"⟩, method_12_code, 5, (some .int), [(0, 10, 13, 13)])
def M_L_name : tm_M := ("GraphNamerLaw", ⟨"GraphNamerLaw", "name", "(LGraphNamer;I[J)I"⟩, method_13_code, 4, (some .int), [(0, 9, 12, 13)])
def M_L_place : tm_M := ("GraphNamerLaw", ⟨"GraphNamerLaw", "place", "(LGraphNamer;II[J)I"⟩, method_14_code, 5, (some .int), [(0, 10, 13, 13)])
def M_L_automorphisms : tm_M := ("GraphNamerLaw", ⟨"GraphNamerLaw", "automorphisms", "(LGraphNamer;I[J)I"⟩, method_15_code, 4, (some .int), [(0, 9, 12, 13)])
def M_L_fixing : tm_M := ("GraphNamerLaw", ⟨"GraphNamerLaw", "fixing", "(LGraphNamer;II[J)I"⟩, method_16_code, 5, (some .int), [(0, 10, 13, 13)])
def M_L_orbit : tm_M := ("GraphNamerLaw", ⟨"GraphNamerLaw", "orbit", "(LGraphNamer;II[J)I"⟩, method_17_code, 5, (some .int), [(0, 10, 13, 13)])
def M_L_orbits : tm_M := ("GraphNamerLaw", ⟨"GraphNamerLaw", "orbits", "(LGraphNamer;I[J)I"⟩, method_18_code, 4, (some .int), [(0, 9, 12, 13)])
def M_L_cell : tm_M := ("GraphNamerLaw", ⟨"GraphNamerLaw", "cell", "(LGraphNamer;II[J)I"⟩, method_19_code, 5, (some .int), [(0, 10, 13, 13)])
def M_L_cells : tm_M := ("GraphNamerLaw", ⟨"GraphNamerLaw", "cells", "(LGraphNamer;I[J)I"⟩, method_20_code, 4, (some .int), [(0, 9, 12, 13)])
def M_L_same : tm_M := ("GraphNamerLaw", ⟨"GraphNamerLaw", "same", "(LGraphNamer;II[J)I"⟩, method_21_code, 5, (some .int), [(0, 17, 20, 13)])
def M_L_match : tm_M := ("GraphNamerLaw", ⟨"GraphNamerLaw", "match", "(LGraphNamer;III[J)I"⟩, method_22_code, 6, (some .int), [(0, 12, 15, 13)])
def M_L_moves : tm_M := ("GraphNamerLaw", ⟨"GraphNamerLaw", "moves", "(LGraphNamer;IIII[J)I"⟩, method_23_code, 7, (some .int), [(0, 21, 24, 13)])
def M_L_law : tm_M := ("GraphNamerLaw", ⟨"GraphNamerLaw", "law", "([I)Z"⟩, code, 7, (some .boolean), [])
def M_I_bitCount : tm_M := ("java/lang/Integer", ⟨"java/lang/Integer", "bitCount", "(I)I"⟩, prog_11_method_49_code, 1, (some .int), [])
def M_H_min : tm_M := ("java/lang/Math", ⟨"java/lang/Math", "min", "(II)I"⟩, prog_12_method_69_code, 2, (some .int), [])
end
section
/-! The machine, seen from above: a world of numbered cells, contracts over it, a step by step condition ('tm_s', 'tm_w') that rows of equations unfold. -/
section TMA
/-- a cell: ints (false) or booleans (true); longs; references to graphs, by number; an object: its class's number in tm_cl, its fields -/
abbrev tm_Ce : Type := (Bool × Nat × (Nat → Int32)) ⊕ ((Nat × (Nat → Int64)) ⊕ ((Nat × (Nat → Option Nat)) ⊕ (Nat × List Value)))
abbrev tm_Hp : Type := Nat → tm_Ce
/-- a value whose reference is a cell's number, as the machine has it -/
def tm_v (ad : Nat → Nat) : Value → Value
  | .ref k => .ref (ad k)
  | v => v
theorem tm_v_cat (ad : Nat → Nat) (v : Value) : (tm_v ad v).category = v.category := by cases v <;> rfl
/-- the addresses; the classes of int[], boolean[], long[], Graph[] -/
abbrev tm_G : Type := (Nat → Nat) × ClassId × ClassId × ClassId × ClassId
def tm_c (g : tm_G) : tm_Ce → va_E
  | .inl (z, n, f) => .inl ((bif z then g.2.2.1 else g.2.1), n, .inl f)
  | .inr (.inl (n, f)) => .inl (g.2.2.2.1, n, .inr (.inl f))
  | .inr (.inr (.inl (n, f))) => .inl (g.2.2.2.2, n, .inr (.inr (.inr (.inr (fun j => (f j).map g.1)))))
  | .inr (.inr (.inr (ci, fs))) => .inr (ci, fs.map (tm_v g.1))
def tm_dead : tm_Ce := .inr (.inr (.inr (1000, [])))
def tm_W (g : tm_G) (h : tm_Hp) : va_W := (List.range tm_K).map (fun k => (g.1 k, tm_c g (h k)))
def tm_ty (g : tm_G) : List (ClassId × FieldType) := [(g.2.1, .int), (g.2.2.1, .boolean), (g.2.2.2.1, .long), (g.2.2.2.2, .object tm_GC)]
def tm_up (h : tm_Hp) (a : Nat) (e : tm_Ce) : tm_Hp := fun k => if k = a then e else h k
theorem tm_up_s (h : tm_Hp) (a : Nat) (e : tm_Ce) : tm_up h a e a = e := if_pos rfl
theorem tm_up_n {h : tm_Hp} {a k : Nat} {e : tm_Ce} (hk : k ≠ a) : tm_up h a e k = h k := if_neg hk
theorem tm_up_up (h : tm_Hp) (a : Nat) (e e' : tm_Ce) : tm_up (tm_up h a e) a e' = tm_up h a e' := by
  funext k
  unfold tm_up
  split <;> rfl
theorem tm_up_id {h : tm_Hp} {a : Nat} {e : tm_Ce} (he : h a = e) : tm_up h a e = h := by
  funext k
  unfold tm_up
  split
  · rename_i q; rw [q, he]
  · rfl
theorem tm_up_c {h : tm_Hp} {a b : Nat} {e e' : tm_Ce} (hab : a ≠ b) : tm_up (tm_up h a e) b e' = tm_up (tm_up h b e') a e := by
  funext k
  unfold tm_up
  by_cases h1 : k = b
  · subst h1
    rw [if_pos rfl, if_neg (fun q => hab q.symm), if_pos rfl]
  · rw [if_neg h1]
    by_cases h2 : k = a
    · rw [if_pos h2, if_pos h2]
    · rw [if_neg h2, if_neg h2, if_neg h1]
theorem tm_W_get (g : tm_G) (h : tm_Hp) {k : Nat} (hk : k < tm_K) : (tm_W g h)[k]? = some (g.1 k, tm_c g (h k)) := by
  unfold tm_W
  rw [List.getElem?_map, List.getElem?_range hk]
  rfl
theorem tm_W_len (g : tm_G) (h : tm_Hp) : (tm_W g h).length = tm_K := by
  unfold tm_W
  rw [List.length_map, List.length_range]
theorem tm_W_at {g : tm_G} {h : tm_Hp} {k : Nat} {q : Nat × va_E} (hq : (tm_W g h)[k]? = some q) : k < tm_K ∧ q = (g.1 k, tm_c g (h k)) := by
  have hl := (List.getElem?_eq_some_iff.mp hq).1
  rw [tm_W_len] at hl
  rw [tm_W_get g h hl] at hq
  exact ⟨hl, (Option.some.inj hq).symm⟩
theorem tm_W_set (g : tm_G) (h : tm_Hp) {k : Nat} (hk : k < tm_K) (e : tm_Ce) : (tm_W g h).set k (g.1 k, tm_c g e) = tm_W g (tm_up h k e) := by
  apply List.ext_getElem?
  intro i
  by_cases hi : i < tm_K
  · rw [tm_W_get g _ hi]
    by_cases hik : k = i
    · subst hik
      rw [List.getElem?_set_self (by rw [tm_W_len]; exact hk), tm_up_s]
    · rw [List.getElem?_set_ne hik, tm_W_get g _ hi, tm_up_n (fun q => hik q.symm)]
  · rw [List.getElem?_eq_none (by rw [List.length_set, tm_W_len]; omega), List.getElem?_eq_none (by rw [tm_W_len]; omega)]
/-- which cells may change: the world's, and those that are new -/
def tm_A (g : tm_G) (sz : Nat) : Nat → Prop := fun q => (∃ k, k < tm_K ∧ q = g.1 k) ∨ sz ≤ q
/-- the addresses are apart; the script's, number tm_K, too -/
def tm_D (g : tm_G) : Prop := ∀ i j, i ≤ tm_K → j ≤ tm_K → g.1 i = g.1 j → i = j
theorem tm_D.va {g : tm_G} (hd : tm_D g) (h : tm_Hp) (sz : Nat) : va_D (tm_A g sz) (tm_W g h) := by
  refine ⟨fun i j p q hi hj e => ?_, fun k q hk => ?_⟩
  · obtain ⟨h1, rfl⟩ := tm_W_at hi
    obtain ⟨h2, rfl⟩ := tm_W_at hj
    exact hd i j (Nat.le_of_lt h1) (Nat.le_of_lt h2) e
  · obtain ⟨h1, rfl⟩ := tm_W_at hk
    exact Or.inl ⟨k, h1, rfl⟩
/-- the script's cell -/
def tm_S (g : tm_G) (h : tm_Hp) (U : State) (H : Heap) : Prop := ∃ (L : Nat) (xs : Nat → Int32), h tm_K = .inl (false, L, xs) ∧ va_X (g.1 tm_K) L xs U H
/-- the world h, in the heap H -/
def tm_R (g : tm_G) (D : va_G) (h : tm_Hp) (U : State) (H : Heap) : Prop := va_P D tm_cl (tm_W g h) H ∧ tm_S g h U H ∧ ∀ k, tm_K < k → h k = tm_dead
theorem tm_R.moved {g : tm_G} {D : va_G} {h : tm_Hp} {u U : State} {H : Heap} (hvm : u.vm.Alike U.vm) (r : tm_R g D h u H) : tm_R g D h U H := by
  obtain ⟨h1, ⟨L, xs, h2, h3⟩, h4⟩ := r
  exact ⟨h1, ⟨L, xs, h2, va_X.moved hvm h3⟩, h4⟩
theorem tm_R.lt {g : tm_G} {D : va_G} {h : tm_Hp} {U : State} {H : Heap} (r : tm_R g D h U H) {k : Nat} (hk : k < tm_K) : g.1 k < H.size := (r.1 k _ (tm_W_get g h hk)).lt
theorem tm_R.ltS {g : tm_G} {D : va_G} {h : tm_Hp} {U : State} {H : Heap} (r : tm_R g D h U H) : g.1 tm_K < H.size := by
  obtain ⟨-, ⟨L, xs, h2, scr, h3, -⟩, -⟩ := r
  exact (Array.getElem?_eq_some_iff.mp h3).1
/-- a cell that isn't dead, and isn't ints, is in the world -/
theorem tm_R.in {g : tm_G} {D : va_G} {h : tm_Hp} {U : State} {H : Heap} (r : tm_R g D h U H) {k : Nat} (hd : h k ≠ tm_dead) (hi : ∀ n f, h k ≠ .inl (false, n, f)) : k < tm_K := by
  obtain ⟨-, ⟨L, xs, h2, -⟩, h4⟩ := r
  rcases Nat.lt_trichotomy k tm_K with q | q | q
  · exact q
  · subst q; exact absurd h2 (hi _ _)
  · exact absurd (h4 k q) hd
/-- behind a change that spares the script -/
theorem tm_S.kept {g : tm_G} {h h' : tm_Hp} {U : State} {H0 H H1 : Heap} {locs locs1 : List Loc} (hd : tm_D g) (hk : h' tm_K = h tm_K) (r : tm_S g h U H) (hS : va_S (tm_A g H0.size) H0 H locs) (hS1 : va_S (tm_A g H0.size) H0 H1 locs1) (hlt : g.1 tm_K < H0.size) : tm_S g h' U H1 := by
  obtain ⟨L, xs, h2, h3⟩ := r
  have hn : ¬ tm_A g H0.size (g.1 tm_K) := by
    rintro (⟨k, h5, h6⟩ | h5)
    · have := hd _ _ (Nat.le_refl _) (Nat.le_of_lt h5) h6
      omega
    · omega
  exact ⟨L, xs, hk.trans h2, va_X.kept h3 ((hS1.2.1 _ hlt hn).trans (hS.2.1 _ hlt hn).symm)⟩
theorem tm_R.kept {g : tm_G} {D : va_G} {h h' : tm_Hp} {U : State} {H0 H H1 : Heap} {locs locs1 : List Loc} (hd : tm_D g) (hk : ∀ k, tm_K ≤ k → h' k = h k) (r : tm_R g D h U H) (hS : va_S (tm_A g H0.size) H0 H locs) (hS1 : va_S (tm_A g H0.size) H0 H1 locs1) (hlt : g.1 tm_K < H0.size) (hP : va_P D tm_cl (tm_W g h') H1) : tm_R g D h' U H1 :=
  ⟨hP, tm_S.kept hd (hk _ (Nat.le_refl _)) r.2.1 hS hS1 hlt, fun k q => (hk k (Nat.le_of_lt q)).trans (r.2.2 k q)⟩
end TMA
section TMB
/-- locals, known or not, by their numbers; those of one slot -/
def tm_la (ad : Nat → Nat) : Nat → List (Option Value) → List (Nat × Value)
  | _, [] => []
  | i, none :: l => tm_la ad (i + 1) l
  | i, some v :: l => if v.category = 1 then (i, tm_v ad v) :: tm_la ad (i + 1) l else tm_la ad (i + 1) l
def tm_l (ad : Nat → Nat) (L : List (Option Value)) : List (Nat × Value) := tm_la ad 0 L
theorem tm_la_in (ad : Nat → Nat) : ∀ (L : List (Option Value)) (o i : Nat) (v : Value), L[i]? = some (some v) → v.category = 1 → (o + i, tm_v ad v) ∈ tm_la ad o L
  | [], _, _, _, h, _ => by simp at h
  | none :: l, o, 0, v, h, _ => by simp at h
  | none :: l, o, i + 1, v, h, hc => by
    have := tm_la_in ad l (o + 1) i v (by simpa using h) hc
    rw [show o + (i + 1) = o + 1 + i by omega]
    exact this
  | some w :: l, o, 0, v, h, hc => by
    have e : w = v := by simpa using h
    subst e
    simp [tm_la, hc]
  | some w :: l, o, i + 1, v, h, hc => by
    have := tm_la_in ad l (o + 1) i v (by simpa using h) hc
    rw [show o + (i + 1) = o + 1 + i by omega]
    simp only [tm_la]
    split
    · exact List.mem_cons_of_mem _ this
    · exact this
theorem tm_la_of (ad : Nat → Nat) : ∀ (L : List (Option Value)) (o : Nat) (q : Nat × Value), q ∈ tm_la ad o L → ∃ i v, q = (o + i, tm_v ad v) ∧ L[i]? = some (some v) ∧ v.category = 1
  | [], _, _, h => by simp [tm_la] at h
  | none :: l, o, q, h => by
    obtain ⟨i, v, e, h1, h2⟩ := tm_la_of ad l (o + 1) q h
    exact ⟨i + 1, v, by rw [e, show o + 1 + i = o + (i + 1) by omega], by simpa using h1, h2⟩
  | some w :: l, o, q, h => by
    simp only [tm_la] at h
    split at h
    · rcases List.mem_cons.mp h with rfl | h
      · exact ⟨0, w, rfl, rfl, by assumption⟩
      · obtain ⟨i, v, e, h1, h2⟩ := tm_la_of ad l (o + 1) q h
        exact ⟨i + 1, v, by rw [e, show o + 1 + i = o + (i + 1) by omega], by simpa using h1, h2⟩
    · obtain ⟨i, v, e, h1, h2⟩ := tm_la_of ad l (o + 1) q h
      exact ⟨i + 1, v, by rw [e, show o + 1 + i = o + (i + 1) by omega], by simpa using h1, h2⟩
theorem tm_l_get {ad : Nat → Nat} {ls : Array Slot} {n i : Nat} {L : List (Option Value)} {v : Value} (h : lv_has ls n (tm_l ad L)) (hi : L[i]? = some (some v)) (hc : v.category = 1) : ls[i]? = some (.val (tm_v ad v)) := by
  have := h.2.2 _ (tm_la_in ad L 0 i v hi hc)
  simpa using this
/-- behind a store -/
theorem tm_l_set {ad : Nat → Nat} {ls' : Array Slot} {n i : Nat} {L : List (Option Value)} {v w : Value} (hw : tm_v ad v = w) (h : lv_has ls' n ((i, w) :: (tm_l ad L).filter (fun q => !(q.1 == i) && !(q.1 + 1 == i && q.2.category == 2)))) : lv_has ls' n (tm_l ad (L.set i (some v))) := by
  refine ⟨h.1, h.2.1, fun q hq => ?_⟩
  obtain ⟨j, u, rfl, h1, h2⟩ := tm_la_of ad _ 0 q hq
  rw [Nat.zero_add] at hq ⊢
  by_cases hj : i = j
  · subst hj
    have hlt : i < L.length := by
      have := (List.getElem?_eq_some_iff.mp h1).1
      rwa [List.length_set] at this
    rw [List.getElem?_set_self hlt] at h1
    cases h1
    rw [hw]
    exact h.2.2 _ List.mem_cons_self
  · rw [List.getElem?_set_ne hj] at h1
    refine h.2.2 _ (List.mem_cons_of_mem _ (List.mem_filter.mpr ⟨?_, ?_⟩))
    · have := tm_la_in ad L 0 j u h1 h2
      rwa [Nat.zero_add] at this
    · have hc : (tm_v ad u).category = 1 := by rw [tm_v_cat]; exact h2
      have hji : ¬ j = i := fun q => hj q.symm
      simp [hc, hji]
theorem tm_l_entry (ad : Nat → Nat) : ∀ (av : List Value) (o k : Nat), (∀ v ∈ av, v.category = 1) → ∀ q ∈ tm_la ad o (av.map some ++ List.replicate k none), q ∈ lv_args o (av.map (tm_v ad))
  | [], o, k, _, q, hq => by
    obtain ⟨i, v, -, h1, -⟩ := tm_la_of ad _ o q hq
    simp only [List.map_nil, List.nil_append] at h1
    have := List.mem_of_getElem? h1
    simp at this
  | v :: l, o, k, hc, q, hq => by
    have h1 : v.category = 1 := hc v List.mem_cons_self
    have h2 : (tm_v ad v).category = 1 := by rw [tm_v_cat]; exact h1
    simp only [List.map_cons, List.cons_append, tm_la, h1, if_true] at hq
    simp only [List.map_cons, lv_args, h2]
    rcases List.mem_cons.mp hq with rfl | hq
    · exact List.mem_cons_self
    · exact List.mem_cons_of_mem _ (tm_l_entry ad l (o + 1) k (fun w hw => hc w (List.mem_cons_of_mem _ hw)) q hq)
theorem tm_sl (ad : Nat → Nat) (av : List Value) (h : ∀ v ∈ av, v.category = 1) : (lg_sl (av.map (tm_v ad))).length = av.length := by
  induction av with
  | nil => rfl
  | cons v l ih =>
    have h2 : (tm_v ad v).category = 1 := by rw [tm_v_cat]; exact h v List.mem_cons_self
    simp only [List.map_cons, lg_sl, List.flatMap_cons, h2]
    have := ih (fun w hw => h w (List.mem_cons_of_mem _ hw))
    simp only [lg_sl] at this
    simp [this]
end TMB
section TMC
def tm_own (M : tm_M) : String := M.1
def tm_y (M : tm_M) : MethodName := M.2.1
def tm_cc (M : tm_M) : ByteArray := M.2.2.1
def tm_nL (M : tm_M) : Nat := M.2.2.2.1
def tm_rt (M : tm_M) : Option FieldType := M.2.2.2.2.1
def tm_hh (M : tm_M) : List (Nat × Nat × Nat × Nat) := M.2.2.2.2.2
/-- what a call came to: an answer, or an exception by its number -/
abbrev tm_O : Type := Option Value ⊕ Nat
def tm_oc (g : tm_G) (s t : State) (o : tm_O) (oc : Outcome) : Prop := match o with
  | .inl v => oc = .returned (v.map (tm_v g.1))
  | .inr k => ∃ (q : Addr) (ce : Cell), oc = .threw q ∧ t.heap[q]? = some ce ∧ ce.vm = .none ∧ s.vm.findClass (tm_ex k) = some ce.cls
def tm_rm (d u0 : Nat) : Room := { frames := d, cells := u0, slots := 6 * u0, locals := 64 * d }
/-- a static field that holds null or a reference -/
def tm_st (C n d : String) (s : State) : Prop := ∃ (c : ClassId) (k : Class) (i : Nat) (f : Field) (a : Nat) (cell : Cell) (v : Value), s.vm.findClass C = some c ∧ s.fieldFound? C n d = some (c, k, i, f) ∧ f.isStatic = true ∧ k.statics = some a ∧ s.heap[a]? = some cell ∧ cell.vm.isStatics = true ∧ cell.cls = c ∧ f.slot < cell.slots.size ∧ k.staticTypes[f.slot]? = some f.type ∧ cell.slots[f.slot]? = some v ∧ v.isRef = true
theorem tm_st.of {C n d : String} {s : State} {args : Array Value} (h1 : (Cond.laysStatic C n d).before args s = true) (h2 : (Cond.isRef (.static C n d)).before args s = true) : tm_st C n d s := by
  obtain ⟨c, k, i, f, a, cell, a1, a2, a3, a4, a5, a6, a7, a8, a9⟩ := Cond.laysStatic_spec h1
  have he : (Term.static C n d).eval args s none [] s = cell.slots[f.slot]? := by
    simp [Term.eval, State.fieldNamed?, a2, a3, a4, a5, a6]
  have hv : cell.slots[f.slot]? = some cell.slots[f.slot] := Array.getElem?_eq_getElem a8
  rw [hv] at he
  refine ⟨c, k, i, f, a, cell, _, a1, a2, a3, a4, a5, a6, a7, a8, a9, hv, ?_⟩
  simp only [Cond.before, Cond.holds, Cond.value, he] at h2
  cases hw : cell.slots[f.slot] <;> first | rfl | (rw [hw] at h2; simp at h2)
theorem tm_st.lays {C n d : String} {s : State} {args : Array Value} (h : tm_st C n d s) : (Cond.laysStatic C n d).before args s = true := by
  obtain ⟨c, k, i, f, a, cell, v, a1, a2, a3, a4, a5, a6, a7, a8, a9, -, -⟩ := h
  exact Cond.laysStatic_of a1 a2 a3 a4 a5 a6 a7 a8 a9
theorem tm_st.isRef {C n d : String} {s : State} {args : Array Value} (h : tm_st C n d s) : (Cond.isRef (.static C n d)).before args s = true := by
  obtain ⟨c, k, i, f, a, cell, v, a1, a2, a3, a4, a5, a6, a7, a8, a9, a10, a11⟩ := h
  have he : (Term.static C n d).eval args s none [] s = some v := by
    simp [Term.eval, State.fieldNamed?, a2, a3, a4, a5, a6, a10]
  simp only [Cond.before, Cond.holds, Cond.value, he]
  cases v <;> simp_all [Value.isRef]
theorem tm_st.at {C n d : String} {s U : State} (hvm : s.vm.Alike U.vm) (hst : ∀ (a : Nat) (cell : Cell), s.heap[a]? = some cell → cell.vm.isStatics = true → U.heap[a]? = some cell) (h : tm_st C n d s) : tm_st C n d U := by
  obtain ⟨c, k, i, f, a, cell, v, a1, a2, a3, a4, a5, a6, a7, a8, a9, a10, a11⟩ := h
  obtain ⟨k', hi', he⟩ := State.fieldFound?_setVm hvm a2
  exact ⟨c, k', i, f, a, cell, v, by rw [hvm.findClass]; exact a1, hi', a3, by rw [he]; exact a4, hst a cell a5 a6, a6, a7, a8, by rw [he]; exact a9, a10, a11⟩
theorem tm_nostat {D : va_G} {q : Nat × va_E} {H : Heap} {cell : Cell} (h : va_at D tm_cl q H) (hc : H[q.1]? = some cell) : cell.vm.isStatics = false := by
  obtain ⟨a, e⟩ := q
  cases e with
  | inl x =>
    have h' : H[a]? = some (vp_cell x.1 x.2) := h
    obtain rfl := Option.some.inj (h'.symm.trans hc)
    unfold vp_cell
    split <;> rfl
  | inr o =>
    obtain ⟨r, -, cell', h1, h2, h3, h4⟩ := h
    obtain rfl := Option.some.inj (h1.symm.trans hc)
    rw [h3]; rfl
/-- what stays from state to state beside the words: the heads of exceptions -/
def tm_X (s : State) : Prop := (∀ q ∈ tm_sts, tm_st q.1 q.2.1 q.2.2 s) ∧ (∀ q ∈ tm_strs, ∃ a, vk_R q.1 q.2.1 q.2.2 a s) ∧ ∀ q ∈ tm_ncs, va_Nc q.1 q.2 s
def tm_E (g : tm_G) (D : va_G) (s : State) : Prop := va_K D tm_cl (tm_ty g) s ∧ tm_D g ∧ tm_X s
def tm_F (M : tm_M) (p : Program) (s : State) (m : MethodId) (args : Array Value) (meth : Method) (c : Code) : Prop :=
  p.tables.exec = Jvm.exec ∧ c.code = tm_cc M ∧ c.maxLocals = tm_nL M ∧ s.vm.findClass (tm_own M) = some m.cls ∧ (∀ w ∈ tm_ws, w.before args s = true) ∧ meth.sig.returnType = tm_rt M ∧ meth.locks = false ∧ c.exceptionTable.toList = tableOf (tm_hh M)
/-- a method's end: o and the world h' with Q; what was there before and isn't the world's is as it was -/
def tm_En (g : tm_G) (D : va_G) (Q : tm_O → tm_Hp → Prop) (u0 : Nat) (s : State) (oc : Outcome) (t : State) : Prop :=
  ∃ (o : tm_O) (h' : tm_Hp) (Ls : List Loc), Q o h' ∧ tm_oc g s t o oc ∧ tm_R g D h' s t.heap ∧ va_F (tm_A g s.heap.size) s t ∧ s.WarmedH t.vm ∧ s.sameButNew ({ t with vm := s.vm } : State) Ls u0 (6 * u0) ∧ ∀ q ∈ Ls, tm_A g s.heap.size q.base
def tm_Z (below : List Frame) (g : tm_G) (D : va_G) (Q : tm_O → tm_Hp → Prop) (u0 : Nat) (s : State) : State → Prop := fun t =>
  ∃ oc, t.status = .running ∧ Ended t below oc ∧ tm_En g D Q u0 s oc t
/-- THE JUDGEMENT: from the frame at pc with these locals, this stack and the world h, u throws paid of u0, the method comes to its end with Q -/
def tm_T (M : tm_M) (d u0 : Nat) (Q : tm_O → tm_Hp → Prop) (u pc : Nat) (L : List (Option Value)) (st : List Value) (h : tm_Hp) : Prop :=
  ∀ (p : Program) (l : Launch) (e : Env) (s : State) (m : MethodId) (args : Array Value) (below : List Frame) (meth : Method) (c : Code) (H : Heap) (locs : List Loc) (ls : Array Slot) (g : tm_G) (D : va_G),
    l.stackTraces = false → tm_F M p s m args meth c → tm_E g D s → (∃ h0, tm_R g D h0 s s.heap) → tm_R g D h s H → va_S (tm_A g s.heap.size) s.heap H locs → lv_has ls (tm_nL M) (tm_l g.1 L) → u ≤ u0 →
    W p l e (tm_rm d u0) s m args below meth c H locs u (6 * u) (tm_Z below g D Q u0 s) (F0 m pc ls (st.map (tm_v g.1)))
def tm_cd (M : tm_M) : Cond := if tm_hh M = [] then .code (tm_y M) (tm_cc M) (tm_nL M) (tm_rt M) else .codeWith (tm_y M) (tm_cc M) (tm_nL M) (tm_rt M) (tm_hh M)
/-- A CONTRACT: called with av in the world h, the method comes to an end with Q; it needs d frames, throws at most u0 times -/
def tm_C (M : tm_M) (d u0 : Nat) (av : List Value) (h : tm_Hp) (Q : tm_O → tm_Hp → Prop) : Prop :=
  ∀ (l : Launch) (g : tm_G) (D : va_G), l.stackTraces = false →
    MetFree l (tm_y M) (headSpec (tm_cd M :: tm_ws) (tm_rm d u0)) (fun a U => a = (av.map (tm_v g.1)).toArray ∧ tm_E g D U ∧ tm_R g D h U U.heap) (fun _ _ _ _ _ => True) (fun _ st oc t => tm_En g D Q u0 st oc t)
theorem tm_W_mono {p : Program} {l : Launch} {e : Env} {R : Room} {s : State} {m : MethodId} {args : Array Value} {below : List Frame} {meth : Method} {c : Code} {H : Heap} {locs : List Loc} {cells slots : Nat} {Q Q' : State → Prop} {g : JFrame} (hq : ∀ t, Q t → Q' t) (w : W p l e R s m args below meth c H locs cells slots Q g) : W p l e R s m args below meth c H locs cells slots Q' g := by
  intro T hT X
  obtain ⟨t, a, b⟩ := w T hT X
  exact ⟨t, a, hq t b⟩
theorem tm_En.mono {g : tm_G} {D : va_G} {Q Q' : tm_O → tm_Hp → Prop} {u0 : Nat} {s t : State} {oc : Outcome} (hq : ∀ o h, Q o h → Q' o h) (x : tm_En g D Q u0 s oc t) : tm_En g D Q' u0 s oc t := by
  obtain ⟨o, h', Ls, h1, h2⟩ := x
  exact ⟨o, h', Ls, hq _ _ h1, h2⟩
theorem tm_T.mono {M : tm_M} {d u0 u pc : Nat} {Q Q' : tm_O → tm_Hp → Prop} {L : List (Option Value)} {st : List Value} {h : tm_Hp} (hq : ∀ o h, Q o h → Q' o h) (x : tm_T M d u0 Q u pc L st h) : tm_T M d u0 Q' u pc L st h := by
  intro p l e s m args below meth c H locs ls g D h1 h2 h3 h4 h5 h6 h7 h8
  refine tm_W_mono ?_ (x p l e s m args below meth c H locs ls g D h1 h2 h3 h4 h5 h6 h7 h8)
  rintro t ⟨oc, a1, a2, a3⟩
  exact ⟨oc, a1, a2, a3.mono hq⟩
theorem tm_C.mono {M : tm_M} {d u0 : Nat} {av : List Value} {h : tm_Hp} {Q Q' : tm_O → tm_Hp → Prop} (hq : ∀ o h, Q o h → Q' o h) (x : tm_C M d u0 av h Q) : tm_C M d u0 av h Q' := by
  intro l g D h1 p e h2 h3 h4 s m args below h5 h6 h7 h8
  obtain ⟨n, o, a1, a2, a3, a4⟩ := x l g D h1 p e h2 h3 h4 s m args below h5 h6 h7 h8
  exact ⟨n, o, a1, a2, a3, a4.mono hq⟩
/-- a contract out of the walk of its body -/
theorem tm_C.of {M : tm_M} {d u0 : Nat} {av : List Value} {h : tm_Hp} {Q : tm_O → tm_Hp → Prop} (hy : plainName (tm_y M).cls = true) (ho : (tm_y M).cls = tm_own M) (hc : ∀ v ∈ av, v.category = 1) (hn : av.length ≤ tm_nL M)
    (hT : tm_T M d u0 Q 0 0 (av.map some ++ List.replicate (tm_nL M - av.length) none) [] h) : tm_C M d u0 av h Q := by
  intro l g D hl
  refine MetFree.of_bodyS (code := tm_cc M) (maxLocals := tm_nL M) (ret := tm_rt M) hy ?_ ?_
  · intro args s m h1 hn1
    have hw := atoms_spec (ws := tm_cd M :: tm_ws) h1 _ List.mem_cons_self
    unfold tm_cd at hw
    split at hw
    · obtain ⟨meth, c, h1, h2, h3, h4, h5, h6, -, -⟩ := Cond.code_spec hn1 hw
      exact ⟨meth, c, h1, h2, h3, h4, h5, h6⟩
    · obtain ⟨m9, meth, c, hn9, h1, h2, h3, h4, -, h5, h6, -⟩ := Cond.codeWith_spec hw
      cases hn1.symm.trans hn9
      exact ⟨meth, c, h1, h2, h3, h4, h5, h6⟩
  · intro p e s m args below meth c s₁ B hml hP _
    obtain ⟨rfl, hE, hR⟩ := hP
    have hh0 : s₁.heap = s.heap := by rw [B.state]; rfl
    have hts := atoms_spec (ws := tm_cd M :: tm_ws) B.pre
    have hown : s.vm.findClass (tm_own M) = some m.cls := by rw [← ho]; exact findClass_of_methodNamed B.named
    have htab : c.exceptionTable.toList = tableOf (tm_hh M) := by
      have hw := hts _ List.mem_cons_self
      unfold tm_cd at hw
      split at hw
      · rename_i hh
        obtain ⟨meth9, c9, h1, h2, -, -, -, -, h7, -⟩ := Cond.code_spec B.named hw
        cases h1.symm.trans B.method
        cases h2.symm.trans (Stand.of_body B).code
        rw [hh, Array.isEmpty_iff.mp h7]
        rfl
      · obtain ⟨m9, meth9, c9, hn9, h1, h2, -, -, h6, -⟩ := Cond.codeWith_spec hw
        cases hn9.symm.trans B.named
        cases h1.symm.trans B.method
        cases h2.symm.trans (Stand.of_body B).code
        rw [← h6, table_eq]
    have hlen := tm_sl g.1 av hc
    have hl0 := lv_entry (av.map (tm_v g.1)) (n := tm_nL M) (by rw [hlen]; exact hn)
    have hl2 : lv_has ((lg_sl (av.map (tm_v g.1)) ++ List.replicate (tm_nL M - (lg_sl (av.map (tm_v g.1))).length) Slot.unset).toArray) (tm_nL M) (tm_l g.1 (av.map some ++ List.replicate (tm_nL M - av.length) none)) :=
      ⟨hl0.1, hl0.2.1, fun q hq => hl0.2.2 q (tm_l_entry g.1 av 0 _ hc q hq)⟩
    have w := hT p l e s m (av.map (tm_v g.1)).toArray below meth c s.heap [] _ g D hl ⟨B.exec, B.bytes, hml, hown, fun w hw => hts w (List.mem_cons_of_mem _ hw), B.returns, B.notSynchronized, htab⟩ hE ⟨h, hR⟩ hR va_S.rf hl2 (Nat.zero_le _)
    obtain ⟨t, a1, oc, b1, b2, b3⟩ := w s₁ hh0 (Stand.of_body B)
    refine ⟨t, oc, ?_, b1, b2, b3⟩
    rw [lg_entry_eq]
    exact a1
end TMC
end
section
section TMD
def tm_i (n : Nat) (f : Nat → Int32) : tm_Ce := .inl (false, n, f)
def tm_z (n : Nat) (f : Nat → Int32) : tm_Ce := .inl (true, n, f)
def tm_j (n : Nat) (f : Nat → Int64) : tm_Ce := .inr (.inl (n, f))
def tm_q (n : Nat) (f : Nat → Option Nat) : tm_Ce := .inr (.inr (.inl (n, f)))
def tm_o (ci : Nat) (fs : List Value) : tm_Ce := .inr (.inr (.inr (ci, fs)))
/-- reading: locals, stack, cells, fields -/
def tm_gI : List (Option Value) → Nat → (Int32 → Prop) → Prop
  | [], _, _ => False
  | o :: l, i, k => match i with
    | 0 => match o with
      | some (.int x) => k x
      | _ => False
    | i + 1 => tm_gI l i k
def tm_gA : List (Option Value) → Nat → (Nat → Prop) → Prop
  | [], _, _ => False
  | o :: l, i, k => match i with
    | 0 => match o with
      | some (.ref x) => k x
      | _ => False
    | i + 1 => tm_gA l i k
def tm_fv : List Value → Nat → (Value → Prop) → Prop
  | [], _, _ => False
  | o :: l, i, k => match i with
    | 0 => k o
    | i + 1 => tm_fv l i k
theorem tm_gI_0 (x : Int32) (l : List (Option Value)) (k : Int32 → Prop) : tm_gI (some (.int x) :: l) 0 k = k x := rfl
theorem tm_gI_s (o : Option Value) (l : List (Option Value)) (i : Nat) (k : Int32 → Prop) : tm_gI (o :: l) (i + 1) k = tm_gI l i k := rfl
theorem tm_gA_0 (x : Nat) (l : List (Option Value)) (k : Nat → Prop) : tm_gA (some (.ref x) :: l) 0 k = k x := rfl
theorem tm_gA_s (o : Option Value) (l : List (Option Value)) (i : Nat) (k : Nat → Prop) : tm_gA (o :: l) (i + 1) k = tm_gA l i k := rfl
theorem tm_fv_0 (x : Value) (l : List Value) (k : Value → Prop) : tm_fv (x :: l) 0 k = k x := rfl
theorem tm_fv_s (o : Value) (l : List Value) (i : Nat) (k : Value → Prop) : tm_fv (o :: l) (i + 1) k = tm_fv l i k := rfl
theorem tm_gI_of : ∀ {L : List (Option Value)} {i : Nat} {k : Int32 → Prop}, tm_gI L i k → ∃ x, L[i]? = some (some (.int x)) ∧ k x
  | [], _, _, h => h.elim
  | o :: l, 0, k, h => by
    cases o with
    | none => exact h.elim
    | some v => cases v <;> first | exact ⟨_, rfl, h⟩ | exact h.elim
  | o :: l, i + 1, k, h => by
    obtain ⟨x, h1, h2⟩ := tm_gI_of (L := l) (i := i) h
    exact ⟨x, by simpa using h1, h2⟩
theorem tm_gA_of : ∀ {L : List (Option Value)} {i : Nat} {k : Nat → Prop}, tm_gA L i k → ∃ x, L[i]? = some (some (.ref x)) ∧ k x
  | [], _, _, h => h.elim
  | o :: l, 0, k, h => by
    cases o with
    | none => exact h.elim
    | some v => cases v <;> first | exact ⟨_, rfl, h⟩ | exact h.elim
  | o :: l, i + 1, k, h => by
    obtain ⟨x, h1, h2⟩ := tm_gA_of (L := l) (i := i) h
    exact ⟨x, by simpa using h1, h2⟩
theorem tm_fv_of : ∀ {L : List Value} {i : Nat} {k : Value → Prop}, tm_fv L i k → ∃ x, L[i]? = some x ∧ k x
  | [], _, _, h => h.elim
  | o :: l, 0, k, h => ⟨o, rfl, h⟩
  | o :: l, i + 1, k, h => by
    obtain ⟨x, h1, h2⟩ := tm_fv_of (L := l) (i := i) h
    exact ⟨x, by simpa using h1, h2⟩
def tm_p1 (st : List Value) (k : Int32 → List Value → Prop) : Prop := match st with
  | .int x :: r => k x r
  | _ => False
def tm_pA (st : List Value) (k : Nat → List Value → Prop) : Prop := match st with
  | .ref x :: r => k x r
  | _ => False
def tm_pJ (st : List Value) (k : Int64 → List Value → Prop) : Prop := match st with
  | .long x :: r => k x r
  | _ => False
/-- any value of one slot -/
def tm_pV (st : List Value) (k : Value → List Value → Prop) : Prop := match st with
  | .int x :: r => k (.int x) r
  | .ref x :: r => k (.ref x) r
  | _ => False
theorem tm_p1_e (x : Int32) (r : List Value) (k : Int32 → List Value → Prop) : tm_p1 (.int x :: r) k = k x r := rfl
theorem tm_pA_e (x : Nat) (r : List Value) (k : Nat → List Value → Prop) : tm_pA (.ref x :: r) k = k x r := rfl
theorem tm_pJ_e (x : Int64) (r : List Value) (k : Int64 → List Value → Prop) : tm_pJ (.long x :: r) k = k x r := rfl
theorem tm_pV_i (x : Int32) (r : List Value) (k : Value → List Value → Prop) : tm_pV (.int x :: r) k = k (.int x) r := rfl
theorem tm_pV_r (x : Nat) (r : List Value) (k : Value → List Value → Prop) : tm_pV (.ref x :: r) k = k (.ref x) r := rfl
theorem tm_p1_of {st : List Value} {k : Int32 → List Value → Prop} (h : tm_p1 st k) : ∃ x r, st = .int x :: r ∧ k x r := by
  cases st with
  | nil => exact h.elim
  | cons v r => cases v <;> first | exact ⟨_, _, rfl, h⟩ | exact h.elim
theorem tm_pA_of {st : List Value} {k : Nat → List Value → Prop} (h : tm_pA st k) : ∃ x r, st = .ref x :: r ∧ k x r := by
  cases st with
  | nil => exact h.elim
  | cons v r => cases v <;> first | exact ⟨_, _, rfl, h⟩ | exact h.elim
theorem tm_pJ_of {st : List Value} {k : Int64 → List Value → Prop} (h : tm_pJ st k) : ∃ x r, st = .long x :: r ∧ k x r := by
  cases st with
  | nil => exact h.elim
  | cons v r => cases v <;> first | exact ⟨_, _, rfl, h⟩ | exact h.elim
theorem tm_pV_of {st : List Value} {k : Value → List Value → Prop} (h : tm_pV st k) : ∃ v r, st = v :: r ∧ v.category = 1 ∧ k v r := by
  cases st with
  | nil => exact h.elim
  | cons v r => cases v <;> first | exact ⟨_, _, rfl, rfl, h⟩ | exact h.elim
def tm_cI (e : tm_Ce) (k : Nat → (Nat → Int32) → Prop) : Prop := match e with
  | .inl (false, n, f) => k n f
  | _ => False
def tm_cZ (e : tm_Ce) (k : Nat → (Nat → Int32) → Prop) : Prop := match e with
  | .inl (true, n, f) => k n f
  | _ => False
def tm_cJ (e : tm_Ce) (k : Nat → (Nat → Int64) → Prop) : Prop := match e with
  | .inr (.inl (n, f)) => k n f
  | _ => False
def tm_cQ (e : tm_Ce) (k : Nat → (Nat → Option Nat) → Prop) : Prop := match e with
  | .inr (.inr (.inl (n, f))) => k n f
  | _ => False
def tm_cO (e : tm_Ce) (ci : Nat) (k : List Value → Prop) : Prop := match e with
  | .inr (.inr (.inr (c, fs))) => c = ci ∧ k fs
  | _ => False
theorem tm_cI_e (n : Nat) (f : Nat → Int32) (k : Nat → (Nat → Int32) → Prop) : tm_cI (tm_i n f) k = k n f := rfl
theorem tm_cZ_e (n : Nat) (f : Nat → Int32) (k : Nat → (Nat → Int32) → Prop) : tm_cZ (tm_z n f) k = k n f := rfl
theorem tm_cJ_e (n : Nat) (f : Nat → Int64) (k : Nat → (Nat → Int64) → Prop) : tm_cJ (tm_j n f) k = k n f := rfl
theorem tm_cQ_e (n : Nat) (f : Nat → Option Nat) (k : Nat → (Nat → Option Nat) → Prop) : tm_cQ (tm_q n f) k = k n f := rfl
theorem tm_cO_e (ci : Nat) (fs : List Value) (k : List Value → Prop) : tm_cO (tm_o ci fs) ci k = k fs := propext ⟨fun h => h.2, fun h => ⟨rfl, h⟩⟩
theorem tm_cI_of {e : tm_Ce} {k : Nat → (Nat → Int32) → Prop} (h : tm_cI e k) : ∃ n f, e = tm_i n f ∧ k n f := by
  rcases e with ⟨z, n, f⟩ | e
  · cases z
    · exact ⟨n, f, rfl, h⟩
    · exact h.elim
  · exact h.elim
theorem tm_cZ_of {e : tm_Ce} {k : Nat → (Nat → Int32) → Prop} (h : tm_cZ e k) : ∃ n f, e = tm_z n f ∧ k n f := by
  rcases e with ⟨z, n, f⟩ | e
  · cases z
    · exact h.elim
    · exact ⟨n, f, rfl, h⟩
  · exact h.elim
theorem tm_cJ_of {e : tm_Ce} {k : Nat → (Nat → Int64) → Prop} (h : tm_cJ e k) : ∃ n f, e = tm_j n f ∧ k n f := by
  rcases e with ⟨z, n, f⟩ | ⟨n, f⟩ | ⟨n, f⟩ | ⟨n, f⟩
  · cases z <;> exact h.elim
  · exact ⟨n, f, rfl, h⟩
  · exact h.elim
  · exact h.elim
theorem tm_cQ_of {e : tm_Ce} {k : Nat → (Nat → Option Nat) → Prop} (h : tm_cQ e k) : ∃ n f, e = tm_q n f ∧ k n f := by
  rcases e with ⟨z, n, f⟩ | ⟨n, f⟩ | ⟨n, f⟩ | ⟨n, f⟩
  · cases z <;> exact h.elim
  · exact h.elim
  · exact ⟨n, f, rfl, h⟩
  · exact h.elim
theorem tm_cO_of {e : tm_Ce} {ci : Nat} {k : List Value → Prop} (h : tm_cO e ci k) : ∃ fs, e = tm_o ci fs ∧ k fs := by
  rcases e with ⟨z, n, f⟩ | ⟨n, f⟩ | ⟨n, f⟩ | ⟨n, f⟩
  · cases z <;> exact h.elim
  · exact h.elim
  · exact h.elim
  · obtain ⟨h1, h2⟩ := h
    subst h1
    exact ⟨f, rfl, h2⟩
/-- a reference out of an array -/
def tm_rq (r : Option Nat) (k : Nat → Prop) : Prop := match r with
  | some a => k a
  | none => False
theorem tm_rq_e (a : Nat) (k : Nat → Prop) : tm_rq (some a) k = k a := rfl
theorem tm_rq_of {r : Option Nat} {k : Nat → Prop} (h : tm_rq r k) : ∃ a, r = some a ∧ k a := by
  cases r with
  | none => exact h.elim
  | some a => exact ⟨a, rfl, h⟩
/-- a comparison -/
def tm_cp (o : ClassFile.Cond) (x y : Int32) : Prop := match o with
  | .eq => x = y
  | .ne => ¬ x = y
  | .lt => x < y
  | .ge => y ≤ x
  | .gt => y < x
  | .le => x ≤ y
end TMD
section TME
def tm_ot {α : Type} (r : Option α) (k : α → Prop) : Prop := match r with
  | some a => k a
  | none => False
theorem tm_ot_of {α : Type} {r : Option α} {k : α → Prop} (h : tm_ot r k) : ∃ a, r = some a ∧ k a := by
  cases r with
  | none => exact h.elim
  | some a => exact ⟨a, rfl, h⟩
/-- what one instruction asks of the rest k -/
def tm_x (M : tm_M) (lf : Prop) (Q : tm_O → tm_Hp → Prop) (k : Nat → List (Option Value) → List Value → tm_Hp → Prop) (ins : Instr) (len pc : Nat) (L : List (Option Value)) (st : List Value) (h : tm_Hp) : Prop :=
  match ins with
  | .iconst n => len = 1 ∧ k (pc + 1) L (.int (Int32.ofInt n) :: st) h
  | .lconst n => len = 1 ∧ k (pc + 1) L (.long (Int64.ofNat n.val) :: st) h
  | .bipush n => len = 2 ∧ k (pc + 2) L (.int (Int8.ofInt n).toInt32 :: st) h
  | .sipush n => len = 3 ∧ k (pc + 3) L (.int (Int16.ofInt n).toInt32 :: st) h
  | .ldc i => len = 2 ∧ tm_ot (tm_cn (tm_own M) i) (fun v => k (pc + 2) L (.int v :: st) h)
  | .ldc_w i => len = 3 ∧ tm_ot (tm_cn (tm_own M) i) (fun v => k (pc + 3) L (.int v :: st) h)
  | .iload_n i => len = 1 ∧ tm_gI L i.val (fun x => k (pc + 1) L (.int x :: st) h)
  | .iload i => len = 2 ∧ tm_gI L i (fun x => k (pc + 2) L (.int x :: st) h)
  | .aload_n i => len = 1 ∧ tm_gA L i.val (fun x => k (pc + 1) L (.ref x :: st) h)
  | .aload i => len = 2 ∧ tm_gA L i (fun x => k (pc + 2) L (.ref x :: st) h)
  | .istore_n i => len = 1 ∧ i.val < tm_nL M ∧ tm_p1 st (fun x r => k (pc + 1) (L.set i.val (some (.int x))) r h)
  | .istore i => len = 2 ∧ i < tm_nL M ∧ tm_p1 st (fun x r => k (pc + 2) (L.set i (some (.int x))) r h)
  | .astore_n i => len = 1 ∧ i.val < tm_nL M ∧ tm_pA st (fun x r => k (pc + 1) (L.set i.val (some (.ref x))) r h)
  | .astore i => len = 2 ∧ i < tm_nL M ∧ tm_pA st (fun x r => k (pc + 2) (L.set i (some (.ref x))) r h)
  | .iinc i n => len = 3 ∧ i < tm_nL M ∧ tm_gI L i (fun x => k (pc + 3) (L.set i (some (.int (x + Int32.ofInt n)))) st h)
  | .iadd => len = 1 ∧ tm_p1 st (fun y r => tm_p1 r (fun x r => k (pc + 1) L (.int (x + y) :: r) h))
  | .isub => len = 1 ∧ tm_p1 st (fun y r => tm_p1 r (fun x r => k (pc + 1) L (.int (x - y) :: r) h))
  | .imul => len = 1 ∧ tm_p1 st (fun y r => tm_p1 r (fun x r => k (pc + 1) L (.int (x * y) :: r) h))
  | .idiv => len = 1 ∧ tm_p1 st (fun y r => tm_p1 r (fun x r => ¬ y = 0 ∧ k (pc + 1) L (.int (x / y) :: r) h))
  | .iand => len = 1 ∧ tm_p1 st (fun y r => tm_p1 r (fun x r => k (pc + 1) L (.int (x &&& y) :: r) h))
  | .ior => len = 1 ∧ tm_p1 st (fun y r => tm_p1 r (fun x r => k (pc + 1) L (.int (x ||| y) :: r) h))
  | .ixor => len = 1 ∧ tm_p1 st (fun y r => tm_p1 r (fun x r => k (pc + 1) L (.int (x ^^^ y) :: r) h))
  | .ishl => len = 1 ∧ tm_p1 st (fun y r => tm_p1 r (fun x r => k (pc + 1) L (.int (x <<< (y &&& 31)) :: r) h))
  | .ishr => len = 1 ∧ tm_p1 st (fun y r => tm_p1 r (fun x r => k (pc + 1) L (.int (x >>> (y &&& 31)) :: r) h))
  | .iushr => len = 1 ∧ tm_p1 st (fun y r => tm_p1 r (fun x r => k (pc + 1) L (.int ((x.toUInt32 >>> (y.toUInt32 &&& Int32.toUInt32 31)).toInt32) :: r) h))
  | .i2l => len = 1 ∧ tm_p1 st (fun x r => k (pc + 1) L (.long x.toInt64 :: r) h)
  | .lcmp => len = 1 ∧ tm_pJ st (fun y r => tm_pJ r (fun x r => k (pc + 1) L (.int (lg_cmp x y) :: r) h))
  | .dup => len = 1 ∧ tm_pV st (fun v r => k (pc + 1) L (v :: v :: r) h)
  | .pop => len = 1 ∧ tm_pV st (fun _ r => k (pc + 1) L r h)
  | .dup_x1 => len = 1 ∧ tm_pV st (fun v r => tm_pV r (fun w r => k (pc + 1) L (v :: w :: v :: r) h))
  | .dup_x2 => len = 1 ∧ tm_pV st (fun v r => tm_pV r (fun w r => tm_pV r (fun z r => k (pc + 1) L (v :: w :: z :: v :: r) h)))
  | .dup2 => len = 1 ∧ tm_pV st (fun v r => tm_pV r (fun w r => k (pc + 1) L (v :: w :: v :: w :: r) h))
  | .ifCond o off => len = 3 ∧ 0 ≤ (pc : Int) + off ∧ tm_p1 st (fun x r => (tm_cp o x 0 → k ((pc : Int) + off).toNat L r h) ∧ (¬ tm_cp o x 0 → k (pc + 3) L r h))
  | .if_icmp o off => len = 3 ∧ 0 ≤ (pc : Int) + off ∧ tm_p1 st (fun y r => tm_p1 r (fun x r => (tm_cp o x y → k ((pc : Int) + off).toNat L r h) ∧ (¬ tm_cp o x y → k (pc + 3) L r h)))
  | .goto off => len = 3 ∧ 0 ≤ (pc : Int) + off ∧ k ((pc : Int) + off).toNat L st h
  | .getfield i => len = 3 ∧ tm_ot (tm_fl (tm_own M) i) (fun q => tm_pA st (fun a r => tm_cO (h a) q.1 (fun fs => tm_fv fs q.2 (fun v => k (pc + 3) L (v :: r) h))))
  | .putfield i => len = 3 ∧ tm_ot (tm_fp (tm_own M) i) (fun q => bif q.2.2
      then tm_p1 st (fun v r => tm_pA r (fun a r => tm_cO (h a) q.1 (fun fs => q.2.1 < fs.length ∧ k (pc + 3) L r (tm_up h a (tm_o q.1 (fs.set q.2.1 (.int v)))))))
      else tm_pA st (fun v r => tm_pA r (fun a r => tm_cO (h a) q.1 (fun fs => q.2.1 < fs.length ∧ k (pc + 3) L r (tm_up h a (tm_o q.1 (fs.set q.2.1 (.ref v))))))))
  | .iaload => len = 1 ∧ tm_p1 st (fun i r => tm_pA r (fun a r => tm_cI (h a) (fun n f => vp_in i n ∧ k (pc + 1) L (.int (f i.toNatClampNeg) :: r) h)))
  | .baload => len = 1 ∧ tm_p1 st (fun i r => tm_pA r (fun a r => tm_cZ (h a) (fun n f => vp_in i n ∧ k (pc + 1) L (.int (f i.toNatClampNeg) :: r) h)))
  | .laload => len = 1 ∧ tm_p1 st (fun i r => tm_pA r (fun a r => tm_cJ (h a) (fun n f => vp_in i n ∧ k (pc + 1) L (.long (f i.toNatClampNeg) :: r) h)))
  | .aaload => len = 1 ∧ tm_p1 st (fun i r => tm_pA r (fun a r => tm_cQ (h a) (fun n f => vp_in i n ∧ tm_rq (f i.toNatClampNeg) (fun b => k (pc + 1) L (.ref b :: r) h))))
  | .iastore => len = 1 ∧ tm_p1 st (fun x r => tm_p1 r (fun i r => tm_pA r (fun a r => tm_cI (h a) (fun n f => a < tm_K ∧ vp_in i n ∧ k (pc + 1) L r (tm_up h a (tm_i n (upd f i.toNatClampNeg x)))))))
  | .bastore => len = 1 ∧ tm_p1 st (fun x r => tm_p1 r (fun i r => tm_pA r (fun a r => tm_cZ (h a) (fun n f => vp_in i n ∧ k (pc + 1) L r (tm_up h a (tm_z n (upd f i.toNatClampNeg (vp_nar .boolean x))))))))
  | .lastore => len = 1 ∧ tm_pJ st (fun x r => tm_p1 r (fun i r => tm_pA r (fun a r => tm_cJ (h a) (fun n f => vp_in i n ∧ k (pc + 1) L r (tm_up h a (tm_j n (vp_updL f i.toNatClampNeg x)))))))
  | .arraylength => len = 1 ∧ tm_pA st (fun a r => tm_cI (h a) (fun n _ => k (pc + 1) L (.int (nI n) :: r) h))
  | .ireturn => len = 1 ∧ tm_p1 st (fun x r => r = [] ∧ (tm_rt M = some .int ∨ tm_rt M = some .boolean ∧ (x = 0 ∨ x = 1)) ∧ Q (.inl (some (.int x))) h)
  | .areturn => len = 1 ∧ tm_pA st (fun x r => r = [] ∧ (∃ n, tm_rt M = some (.object n)) ∧ Q (.inl (some (.ref x))) h)
  | .return_ => len = 1 ∧ st = [] ∧ tm_rt M = none ∧ Q (.inl none) h
  | .invokestatic _ | .invokevirtual _ | .invokespecial _ | .new _ | .tableswitch .. => lf
  | _ => False
def tm_on (r : Except DecodeError (Instr × Nat)) (k : Instr → Nat → Prop) : Prop := match r with
  | .ok (i, n) => k i n
  | .error _ => False
/-- n instructions at most, up to a place in S -/
def tm_w (M : tm_M) (d u0 : Nat) (Q : tm_O → tm_Hp → Prop) (u : Nat) (S : List Nat) : Nat → Nat → List (Option Value) → List Value → tm_Hp → Prop
  | 0, pc, L, st, h => tm_T M d u0 Q u pc L st h
  | n + 1, pc, L, st, h => bif S.contains pc then tm_T M d u0 Q u pc L st h else
      tm_on (decode (tm_cc M) pc) (fun ins len => tm_x M (tm_T M d u0 Q u pc L st h) Q (tm_w M d u0 Q u S n) ins len pc L st h)
/-- one instruction, whatever S says, then as tm_w -/
def tm_s (M : tm_M) (d u0 : Nat) (Q : tm_O → tm_Hp → Prop) (u : Nat) (S : List Nat) (n pc : Nat) (L : List (Option Value)) (st : List Value) (h : tm_Hp) : Prop :=
  tm_on (decode (tm_cc M) pc) (fun ins len => tm_x M (tm_T M d u0 Q u pc L st h) Q (tm_w M d u0 Q u S n) ins len pc L st h)
theorem tm_w_s (M : tm_M) (d u0 : Nat) (Q : tm_O → tm_Hp → Prop) (u : Nat) (S : List Nat) (n pc : Nat) (L : List (Option Value)) (st : List Value) (h : tm_Hp) :
    tm_w M d u0 Q u S (n + 1) pc L st h = bif S.contains pc then tm_T M d u0 Q u pc L st h else tm_s M d u0 Q u S n pc L st h := rfl
theorem tm_w_0 (M : tm_M) (d u0 : Nat) (Q : tm_O → tm_Hp → Prop) (u : Nat) (S : List Nat) (pc : Nat) (L : List (Option Value)) (st : List Value) (h : tm_Hp) :
    tm_w M d u0 Q u S 0 pc L st h = tm_T M d u0 Q u pc L st h := rfl
end TME
end
section
section TMF
variable {M : tm_M} {d u0 u : Nat} {Q : tm_O → tm_Hp → Prop} {pc : Nat} {L : List (Option Value)} {st : List Value} {h : tm_Hp}
/-- an instruction that leaves the heap alone -/
theorem tm_pl {pc' : Nat} {L' : List (Option Value)} {st' : List Value} (hk : tm_T M d u0 Q u pc' L' st' h)
    (hw : ∀ (p : Program) (l : Launch) (e : Env) (R : Room) (s : State) (m : MethodId) (args : Array Value) (below : List Frame) (meth : Method) (c : Code) (H : Heap) (locs : List Loc) (cells slots : Nat) (Z : State → Prop) (ls : Array Slot) (g : tm_G), tm_F M p s m args meth c → lv_has ls (tm_nL M) (tm_l g.1 L) →
      (∀ ls', lv_has ls' (tm_nL M) (tm_l g.1 L') → W p l e R s m args below meth c H locs cells slots Z (F0 m pc' ls' (st'.map (tm_v g.1)))) → W p l e R s m args below meth c H locs cells slots Z (F0 m pc ls (st.map (tm_v g.1)))) : tm_T M d u0 Q u pc L st h := by
  intro p l e s m args below meth c H locs ls g D h1 h2 h3 h4 h5 h6 h7 h8
  exact hw p l e _ s m args below meth c H locs _ _ _ ls g h2 h7 (fun ls' h7' => hk p l e s m args below meth c H locs ls' g D h1 h2 h3 h4 h5 h6 h7' h8)
/-- a branch -/
theorem tm_br {P : Prop} {pc1 pc2 : Nat} {st' : List Value} (k1 : P → tm_T M d u0 Q u pc1 L st' h) (k2 : ¬ P → tm_T M d u0 Q u pc2 L st' h)
    (hw : ∀ (p : Program) (l : Launch) (e : Env) (R : Room) (s : State) (m : MethodId) (args : Array Value) (below : List Frame) (meth : Method) (c : Code) (H : Heap) (locs : List Loc) (cells slots : Nat) (Z : State → Prop) (ls : Array Slot) (g : tm_G), tm_F M p s m args meth c →
      (P → W p l e R s m args below meth c H locs cells slots Z (F0 m pc1 ls (st'.map (tm_v g.1)))) → (¬ P → W p l e R s m args below meth c H locs cells slots Z (F0 m pc2 ls (st'.map (tm_v g.1)))) → W p l e R s m args below meth c H locs cells slots Z (F0 m pc ls (st.map (tm_v g.1)))) : tm_T M d u0 Q u pc L st h := by
  intro p l e s m args below meth c H locs ls g D h1 h2 h3 h4 h5 h6 h7 h8
  exact hw p l e _ s m args below meth c H locs _ _ _ ls g h2 (fun q => k1 q p l e s m args below meth c H locs ls g D h1 h2 h3 h4 h5 h6 h7 h8) (fun q => k2 q p l e s m args below meth c H locs ls g D h1 h2 h3 h4 h5 h6 h7 h8)
theorem tm_tgt {pc : Nat} {off : Int} (h : 0 ≤ (pc : Int) + off) : (pc : Int) + off = ((((pc : Int) + off).toNat : Nat) : Int) := (Int.toNat_of_nonneg h).symm
theorem tm_T_ifc {o : ClassFile.Cond} {off : Int} {x : Int32} {r : List Value} (hd : decode (tm_cc M) pc = .ok (.ifCond o off, 3)) (hp : 0 ≤ (pc : Int) + off) (k1 : tm_cp o x 0 → tm_T M d u0 Q u ((pc : Int) + off).toNat L r h) (k2 : ¬ tm_cp o x 0 → tm_T M d u0 Q u (pc + 3) L r h) : tm_T M d u0 Q u pc L (.int x :: r) h := by
  refine tm_br (P := tm_cp o x 0) k1 k2 ?_
  intro p l e R s m args below meth c H locs cells slots Z ls g hF w1 w2
  cases o
  · exact lv_if_eq hF.1 hF.2.1 hd (tm_tgt hp) w1 w2
  · exact lv_if_ne hF.1 hF.2.1 hd (tm_tgt hp) w1 (fun q => w2 (by first | exact q | exact fun z => z q))
  · exact lv_if_lt hF.1 hF.2.1 hd (tm_tgt hp) w1 w2
  · exact lv_if_ge hF.1 hF.2.1 hd (tm_tgt hp) w1 w2
  · exact lv_if_gt hF.1 hF.2.1 hd (tm_tgt hp) w1 w2
  · exact lv_if_le hF.1 hF.2.1 hd (tm_tgt hp) w1 w2
theorem tm_T_icmp {o : ClassFile.Cond} {off : Int} {x y : Int32} {r : List Value} (hd : decode (tm_cc M) pc = .ok (.if_icmp o off, 3)) (hp : 0 ≤ (pc : Int) + off) (k1 : tm_cp o x y → tm_T M d u0 Q u ((pc : Int) + off).toNat L r h) (k2 : ¬ tm_cp o x y → tm_T M d u0 Q u (pc + 3) L r h) : tm_T M d u0 Q u pc L (.int y :: .int x :: r) h := by
  refine tm_br (P := tm_cp o x y) k1 k2 ?_
  intro p l e R s m args below meth c H locs cells slots Z ls g hF w1 w2
  cases o
  · exact lv_icmp_eq hF.1 hF.2.1 hd (tm_tgt hp) w1 w2
  · exact lv_icmp_ne hF.1 hF.2.1 hd (tm_tgt hp) w1 (fun q => w2 (by first | exact q | exact fun z => z q))
  · exact lv_icmp_lt hF.1 hF.2.1 hd (tm_tgt hp) w1 w2
  · exact lv_icmp_ge hF.1 hF.2.1 hd (tm_tgt hp) w1 w2
  · exact lv_icmp_gt hF.1 hF.2.1 hd (tm_tgt hp) w1 w2
  · exact lv_icmp_le hF.1 hF.2.1 hd (tm_tgt hp) w1 w2
theorem tm_o_nd {ci : Nat} {fs : List Value} (hc : ci < tm_cl.length) : tm_o ci fs ≠ tm_dead := by
  intro q
  have hl := tm_cl_len
  simp only [tm_o, tm_dead, Sum.inr.injEq, Prod.mk.injEq] at q
  omega
theorem tm_T_getf {i a ci j : Nat} {r fs : List Value} {v : Value} (hd : decode (tm_cc M) pc = .ok (.getfield i, 3)) (hq : tm_fl (tm_own M) i = some (ci, j)) (hfs : h a = tm_o ci fs) (hv : fs[j]? = some v) (hk : tm_T M d u0 Q u (pc + 3) L (v :: r) h) : tm_T M d u0 Q u pc L (.ref a :: r) h := by
  obtain ⟨C, T, N, ty, c1, c2, c3, c4, c5, c6⟩ := tm_fl_ok hq
  intro p l e s m args below meth c H locs ls g D h1 h2 h3 h4 h5 h6 h7 h8
  have haK : a < tm_K := tm_R.in h5 (by rw [hfs]; exact tm_o_nd (List.getElem?_eq_some_iff.mp c1).1) (fun n f => by rw [hfs]; exact fun q => nomatch q)
  have he : (tm_W g h)[a]? = some (g.1 a, .inr (ci, fs.map (tm_v g.1))) := by rw [tm_W_get g h haK, hfs]; rfl
  have hv' : (fs.map (tm_v g.1))[j]? = some (tm_v g.1 v) := by rw [List.getElem?_map, hv]; rfl
  have w := hk p l e s m args below meth c H locs ls g D h1 h2 h3 h4 h5 h6 h7 h8
  rcases c6 with c6 | ⟨host, c6⟩
  · exact va_get (D := D) h2.1 h2.2.1 h2.2.2.2.2.1 c3 h2.2.2.2.1 h3.1 h5.1 a he c1 j c2 (h2.2.2.2.2.1 _ c6) (fun _ q => q) hv' hd w
  · exact va_getN (D := D) h2.1 h2.2.1 h2.2.2.2.2.1 c3 h2.2.2.2.1 h3.1 h5.1 a he c1 j c2 (h2.2.2.2.2.1 _ c6) (fun _ q => q) hv' hd w
theorem tm_T_putf {i a ci j : Nat} {b : Bool} {r fs : List Value} {v : Value} (hd : decode (tm_cc M) pc = .ok (.putfield i, 3)) (hq : tm_fp (tm_own M) i = some (ci, j, b)) (hb : (b = true ∧ ∃ x, v = .int x) ∨ (b = false ∧ ∃ x, v = .ref x)) (hfs : h a = tm_o ci fs) (hl : j < fs.length) (hk : tm_T M d u0 Q u (pc + 3) L r (tm_up h a (tm_o ci (fs.set j v)))) : tm_T M d u0 Q u pc L (v :: .ref a :: r) h := by
  obtain ⟨C, T, N, ty, c1, c2, c3, c4, c5, c6, c7, c8⟩ := tm_fp_ok hq
  intro p l e s m args below meth c H locs ls g D h1 h2 h3 h4 h5 h6 h7 h8
  have haK : a < tm_K := tm_R.in h5 (by rw [hfs]; exact tm_o_nd (List.getElem?_eq_some_iff.mp c1).1) (fun n f => by rw [hfs]; exact fun q => nomatch q)
  have he : (tm_W g h)[a]? = some (g.1 a, .inr (ci, fs.map (tm_v g.1))) := by rw [tm_W_get g h haK, hfs]; rfl
  have hn : narrow (ty j) (tm_v g.1 v) = tm_v g.1 v ∧ fits (ty j) (tm_v g.1 v) = true := by
    rcases hb with ⟨rfl, x, rfl⟩ | ⟨rfl, x, rfl⟩
    · have c9 : ty j = .int := c8
      rw [c9]; exact ⟨rfl, rfl⟩
    · have c9 : ty j = .array .int := c8
      rw [c9]; exact ⟨rfl, rfl⟩
  obtain ⟨h0, hR0⟩ := h4
  have key : ∀ (H1 : Heap) (locs1 : List Loc), va_P D tm_cl ((tm_W g h).set a (g.1 a, .inr (ci, (fs.map (tm_v g.1)).set j (tm_v g.1 v)))) H1 → va_D (tm_A g s.heap.size) ((tm_W g h).set a (g.1 a, .inr (ci, (fs.map (tm_v g.1)).set j (tm_v g.1 v)))) → va_S (tm_A g s.heap.size) s.heap H1 locs1 →
      W p l e (tm_rm d u0) s m args below meth c H1 locs1 u (6 * u) (tm_Z below g D Q u0 s) (F0 m (pc + 3) ls (r.map (tm_v g.1))) := by
    intro H1 locs1 hP1 _ hS1
    have e1 : (tm_W g h).set a (g.1 a, .inr (ci, (fs.map (tm_v g.1)).set j (tm_v g.1 v))) = tm_W g (tm_up h a (tm_o ci (fs.set j v))) := by
      rw [← tm_W_set g h haK, ← List.map_set]
      rfl
    rw [e1] at hP1
    exact hk p l e s m args below meth c H1 locs1 ls g D h1 h2 h3 ⟨h0, hR0⟩ (tm_R.kept h3.2.1 (fun k hk => tm_up_n (by omega)) h5 h6 hS1 hR0.ltS hP1) hS1 h7 h8
  rcases c6 with c6 | ⟨host, c6⟩
  · exact va_put (D := D) (A := tm_A g s.heap.size) h2.1 h2.2.1 h2.2.2.2.2.1 c3 ty c4 c5 h2.2.2.2.1 h3.1 h5.1 (h3.2.1.va h _) h6 a he c1 j c2 (h2.2.2.2.2.1 _ c6) (fun _ q => q) c7 (c4 j c2) hn.1 hn.2 (by rw [List.length_map]; exact hl) hd key
  · exact va_putN (D := D) (A := tm_A g s.heap.size) h2.1 h2.2.1 h2.2.2.2.2.1 c3 ty c4 c5 h2.2.2.2.1 h3.1 h5.1 (h3.2.1.va h _) h6 a he c1 j c2 (h2.2.2.2.2.1 _ c6) (fun _ q => q) c7 (c4 j c2) hn.1 hn.2 (by rw [List.length_map]; exact hl) hd key
/-- the script's place, where an array of ints isn't in the world -/
theorem tm_sc {g : tm_G} {D : va_G} {s : State} {H : Heap} {locs : List Loc} {a n : Nat} {f : Nat → Int32} (hD : tm_D g) (h0 : ∃ h0, tm_R g D h0 s s.heap) (h5 : tm_R g D h s H) (h6 : va_S (tm_A g s.heap.size) s.heap H locs) (hfs : h a = tm_i n f) (ha : ¬ a < tm_K) : a = tm_K ∧ va_X (g.1 a) n f s s.heap ∧ g.1 a < s.heap.size ∧ ¬ tm_A g s.heap.size (g.1 a) := by
  obtain ⟨h0, hR0⟩ := h0
  have e : a = tm_K := by
    rcases Nat.lt_trichotomy a tm_K with q | q | q
    · exact absurd q ha
    · exact q
    · have := h5.2.2 a q
      rw [hfs] at this
      exact nomatch this
  subst e
  have hlt := hR0.ltS
  have hn : ¬ tm_A g s.heap.size (g.1 tm_K) := by
    rintro (⟨k, h8, h9⟩ | h8)
    · have := hD _ _ (Nat.le_refl _) (Nat.le_of_lt h8) h9
      omega
    · omega
  obtain ⟨L0, xs, e1, e2⟩ := h5.2.1
  rw [hfs] at e1
  simp only [tm_i, Sum.inl.injEq, Prod.mk.injEq, true_and] at e1
  obtain ⟨rfl, rfl⟩ := e1
  exact ⟨rfl, va_X.kept e2 (h6.2.1 _ hlt hn).symm, hlt, hn⟩
theorem tm_T_iald {a n : Nat} {f : Nat → Int32} {i : Int32} {r : List Value} (hd : decode (tm_cc M) pc = .ok (.iaload, 1)) (hfs : h a = tm_i n f) (hi : vp_in i n) (hk : tm_T M d u0 Q u (pc + 1) L (.int (f i.toNatClampNeg) :: r) h) : tm_T M d u0 Q u pc L (.int i :: .ref a :: r) h := by
  intro p l e s m args below meth c H locs ls g D h1 h2 h3 h4 h5 h6 h7 h8
  have w := hk p l e s m args below meth c H locs ls g D h1 h2 h3 h4 h5 h6 h7 h8
  by_cases haK : a < tm_K
  · have he : (tm_W g h)[a]? = some (g.1 a, .inl (g.2.1, n, .inl f)) := by rw [tm_W_get g h haK, hfs]; rfl
    exact va_iald (D := D) h2.1 h2.2.1 h3.1 h5.1 a 0 he rfl hi hd w
  · obtain ⟨-, hX, hlt, hn⟩ := tm_sc h3.2.1 h4 h5 h6 hfs haK
    exact va_sld h2.1 h2.2.1 hX hlt hn h6 hi hd w
theorem tm_T_alen {a n : Nat} {f : Nat → Int32} {r : List Value} (hd : decode (tm_cc M) pc = .ok (.arraylength, 1)) (hfs : h a = tm_i n f) (hk : tm_T M d u0 Q u (pc + 1) L (.int (nI n) :: r) h) : tm_T M d u0 Q u pc L (.ref a :: r) h := by
  intro p l e s m args below meth c H locs ls g D h1 h2 h3 h4 h5 h6 h7 h8
  have w := hk p l e s m args below meth c H locs ls g D h1 h2 h3 h4 h5 h6 h7 h8
  by_cases haK : a < tm_K
  · have he : (tm_W g h)[a]? = some (g.1 a, .inl (g.2.1, n, .inl f)) := by rw [tm_W_get g h haK, hfs]; rfl
    exact va_alen (D := D) h2.1 h2.2.1 h3.1 h5.1 a 0 he (ty := .int) rfl rfl hd w
  · obtain ⟨-, hX, hlt, hn⟩ := tm_sc h3.2.1 h4 h5 h6 hfs haK
    exact va_slen h2.1 h2.2.1 hX hlt hn h6 hd w
theorem tm_T_zald {a n : Nat} {f : Nat → Int32} {i : Int32} {r : List Value} (hd : decode (tm_cc M) pc = .ok (.baload, 1)) (hfs : h a = tm_z n f) (hi : vp_in i n) (hk : tm_T M d u0 Q u (pc + 1) L (.int (f i.toNatClampNeg) :: r) h) : tm_T M d u0 Q u pc L (.int i :: .ref a :: r) h := by
  intro p l e s m args below meth c H locs ls g D h1 h2 h3 h4 h5 h6 h7 h8
  have haK : a < tm_K := tm_R.in h5 (by rw [hfs]; exact fun q => nomatch q) (fun n f => by rw [hfs]; intro q; simp [tm_z] at q)
  have he : (tm_W g h)[a]? = some (g.1 a, .inl (g.2.2.1, n, .inl f)) := by rw [tm_W_get g h haK, hfs]; rfl
  exact va_zald (D := D) h2.1 h2.2.1 h3.1 h5.1 a 1 he rfl hi hd (hk p l e s m args below meth c H locs ls g D h1 h2 h3 h4 h5 h6 h7 h8)
theorem tm_T_lald {a n : Nat} {f : Nat → Int64} {i : Int32} {r : List Value} (hd : decode (tm_cc M) pc = .ok (.laload, 1)) (hfs : h a = tm_j n f) (hi : vp_in i n) (hk : tm_T M d u0 Q u (pc + 1) L (.long (f i.toNatClampNeg) :: r) h) : tm_T M d u0 Q u pc L (.int i :: .ref a :: r) h := by
  intro p l e s m args below meth c H locs ls g D h1 h2 h3 h4 h5 h6 h7 h8
  have haK : a < tm_K := tm_R.in h5 (by rw [hfs]; exact fun q => nomatch q) (fun n f => by rw [hfs]; exact fun q => nomatch q)
  have he : (tm_W g h)[a]? = some (g.1 a, .inl (g.2.2.2.1, n, .inr (.inl f))) := by rw [tm_W_get g h haK, hfs]; rfl
  exact va_lald (D := D) h2.1 h2.2.1 h3.1 h5.1 a 2 he rfl hi hd (hk p l e s m args below meth c H locs ls g D h1 h2 h3 h4 h5 h6 h7 h8)
theorem tm_T_aald {a n b : Nat} {f : Nat → Option Nat} {i : Int32} {r : List Value} (hd : decode (tm_cc M) pc = .ok (.aaload, 1)) (hfs : h a = tm_q n f) (hi : vp_in i n) (hb : f i.toNatClampNeg = some b) (hk : tm_T M d u0 Q u (pc + 1) L (.ref b :: r) h) : tm_T M d u0 Q u pc L (.int i :: .ref a :: r) h := by
  intro p l e s m args below meth c H locs ls g D h1 h2 h3 h4 h5 h6 h7 h8
  have haK : a < tm_K := tm_R.in h5 (by rw [hfs]; exact fun q => nomatch q) (fun n f => by rw [hfs]; exact fun q => nomatch q)
  have he : (tm_W g h)[a]? = some (g.1 a, .inl (g.2.2.2.2, n, .inr (.inr (.inr (.inr (fun j => (f j).map g.1)))))) := by rw [tm_W_get g h haK, hfs]; rfl
  refine va_aldq (D := D) (C := tm_GC) h2.1 h2.2.1 h3.1 h5.1 a 3 he rfl hi hd ?_
  have w := hk p l e s m args below meth c H locs ls g D h1 h2 h3 h4 h5 h6 h7 h8
  show W p l e (tm_rm d u0) s m args below meth c H locs u (6 * u) (tm_Z below g D Q u0 s) (F0 m (pc + 1) ls (va_rf ((f i.toNatClampNeg).map g.1) :: r.map (tm_v g.1)))
  rw [hb]
  exact w
theorem tm_T_iast {a n : Nat} {f : Nat → Int32} {i x : Int32} {r : List Value} (hd : decode (tm_cc M) pc = .ok (.iastore, 1)) (hfs : h a = tm_i n f) (haK : a < tm_K) (hi : vp_in i n) (hk : tm_T M d u0 Q u (pc + 1) L r (tm_up h a (tm_i n (upd f i.toNatClampNeg x)))) : tm_T M d u0 Q u pc L (.int x :: .int i :: .ref a :: r) h := by
  intro p l e s m args below meth c H locs ls g D h1 h2 h3 h4 h5 h6 h7 h8
  have he : (tm_W g h)[a]? = some (g.1 a, .inl (g.2.1, n, .inl f)) := by rw [tm_W_get g h haK, hfs]; rfl
  obtain ⟨h0, hR0⟩ := h4
  refine va_iast (D := D) (A := tm_A g s.heap.size) h2.1 h2.2.1 h3.1 h5.1 (h3.2.1.va h _) h6 a 0 he rfl hi hd (fun H1 locs1 hP1 _ hS1 => ?_)
  have e1 : (tm_W g h).set a (g.1 a, .inl (g.2.1, n, .inl (upd f i.toNatClampNeg x))) = tm_W g (tm_up h a (tm_i n (upd f i.toNatClampNeg x))) := tm_W_set g h haK (tm_i n (upd f i.toNatClampNeg x))
  rw [e1] at hP1
  exact hk p l e s m args below meth c H1 locs1 ls g D h1 h2 h3 ⟨h0, hR0⟩ (tm_R.kept h3.2.1 (fun k hk => tm_up_n (by omega)) h5 h6 hS1 hR0.ltS hP1) hS1 h7 h8
theorem tm_T_zast {a n : Nat} {f : Nat → Int32} {i x : Int32} {r : List Value} (hd : decode (tm_cc M) pc = .ok (.bastore, 1)) (hfs : h a = tm_z n f) (hi : vp_in i n) (hk : tm_T M d u0 Q u (pc + 1) L r (tm_up h a (tm_z n (upd f i.toNatClampNeg (vp_nar .boolean x))))) : tm_T M d u0 Q u pc L (.int x :: .int i :: .ref a :: r) h := by
  intro p l e s m args below meth c H locs ls g D h1 h2 h3 h4 h5 h6 h7 h8
  have haK : a < tm_K := tm_R.in h5 (by rw [hfs]; exact fun q => nomatch q) (fun n f => by rw [hfs]; intro q; simp [tm_z] at q)
  have he : (tm_W g h)[a]? = some (g.1 a, .inl (g.2.2.1, n, .inl f)) := by rw [tm_W_get g h haK, hfs]; rfl
  obtain ⟨h0, hR0⟩ := h4
  refine va_zast (D := D) (A := tm_A g s.heap.size) h2.1 h2.2.1 h3.1 h5.1 (h3.2.1.va h _) h6 a 1 he rfl hi hd (fun H1 locs1 hP1 _ hS1 => ?_)
  have e1 : (tm_W g h).set a (g.1 a, .inl (g.2.2.1, n, .inl (upd f i.toNatClampNeg (vp_nar .boolean x)))) = tm_W g (tm_up h a (tm_z n (upd f i.toNatClampNeg (vp_nar .boolean x)))) := tm_W_set g h haK (tm_z n (upd f i.toNatClampNeg (vp_nar .boolean x)))
  rw [e1] at hP1
  exact hk p l e s m args below meth c H1 locs1 ls g D h1 h2 h3 ⟨h0, hR0⟩ (tm_R.kept h3.2.1 (fun k hk => tm_up_n (by omega)) h5 h6 hS1 hR0.ltS hP1) hS1 h7 h8
theorem tm_T_last {a n : Nat} {f : Nat → Int64} {i : Int32} {x : Int64} {r : List Value} (hd : decode (tm_cc M) pc = .ok (.lastore, 1)) (hfs : h a = tm_j n f) (hi : vp_in i n) (hk : tm_T M d u0 Q u (pc + 1) L r (tm_up h a (tm_j n (vp_updL f i.toNatClampNeg x)))) : tm_T M d u0 Q u pc L (.long x :: .int i :: .ref a :: r) h := by
  intro p l e s m args below meth c H locs ls g D h1 h2 h3 h4 h5 h6 h7 h8
  have haK : a < tm_K := tm_R.in h5 (by rw [hfs]; exact fun q => nomatch q) (fun n f => by rw [hfs]; exact fun q => nomatch q)
  have he : (tm_W g h)[a]? = some (g.1 a, .inl (g.2.2.2.1, n, .inr (.inl f))) := by rw [tm_W_get g h haK, hfs]; rfl
  obtain ⟨h0, hR0⟩ := h4
  refine va_last (D := D) (A := tm_A g s.heap.size) h2.1 h2.2.1 h3.1 h5.1 (h3.2.1.va h _) h6 a 2 he rfl hi hd (fun H1 locs1 hP1 _ hS1 => ?_)
  have e1 : (tm_W g h).set a (g.1 a, .inl (g.2.2.2.1, n, .inr (.inl (vp_updL f i.toNatClampNeg x)))) = tm_W g (tm_up h a (tm_j n (vp_updL f i.toNatClampNeg x))) := tm_W_set g h haK (tm_j n (vp_updL f i.toNatClampNeg x))
  rw [e1] at hP1
  exact hk p l e s m args below meth c H1 locs1 ls g D h1 h2 h3 ⟨h0, hR0⟩ (tm_R.kept h3.2.1 (fun k hk => tm_up_n (by omega)) h5 h6 hS1 hR0.ltS hP1) hS1 h7 h8
/-- an end by return -/
theorem tm_ret {p : Program} {l : Launch} {e : Env} {s : State} {m : MethodId} {args : Array Value} {below : List Frame} {meth : Method} {c : Code} {H : Heap} {locs : List Loc} {g : tm_G} {D : va_G} {fr : JFrame} {v : Option Value} {w : Option Value} (hv : v.map (tm_v g.1) = w) (hq : Q (.inl v) h) (h5 : tm_R g D h s H) (h6 : va_S (tm_A g s.heap.size) s.heap H locs) (h8 : u ≤ u0)
    (hw : W p l e (tm_rm d u0) s m args below meth c H locs u0 (6 * u0) (MQ below (fun _ _ oc t => oc = .returned w ∧ t.heap = H) args s u0 (6 * u0) (tm_A g s.heap.size)) fr) : W p l e (tm_rm d u0) s m args below meth c H locs u (6 * u) (tm_Z below g D Q u0 s) fr := by
  refine W.widen h8 (by omega) (tm_W_mono ?_ hw)
  rintro t ⟨oc, a1, a2, ⟨a3, a4⟩, Ls, ⟨a5, a6, a7⟩, a8⟩
  refine ⟨oc, a1, a2, .inl v, h, Ls, hq, ?_, by rw [a4]; exact h5, h6.F a4, a6, a7, a8⟩
  show oc = .returned (v.map (tm_v g.1))
  rw [a3, hv]
theorem tm_T_iret {x : Int32} (hd : decode (tm_cc M) pc = .ok (.ireturn, 1)) (ht : tm_rt M = some .int ∨ tm_rt M = some .boolean ∧ (x = 0 ∨ x = 1)) (hq : Q (.inl (some (.int x))) h) : tm_T M d u0 Q u pc L [.int x] h := by
  intro p l e s m args below meth c H locs ls g D h1 h2 h3 h4 h5 h6 h7 h8
  refine tm_ret (v := some (.int x)) rfl hq h5 h6 h8 ?_
  rcases ht with ht | ⟨ht, hx⟩
  · exact W.iret h2.1 h2.2.1 (h2.2.2.2.2.2.1.trans ht) (fun t ht _ => ⟨rfl, ht⟩) h6.2.2 hd (hlocks := h2.2.2.2.2.2.2.1)
  · exact W.zret (ty := .boolean) h2.1 h2.2.1 (h2.2.2.2.2.2.1.trans ht) (by rcases hx with rfl | rfl <;> rfl) (fun t ht _ => ⟨rfl, ht⟩) h6.2.2 hd (hlocks := h2.2.2.2.2.2.2.1)
theorem tm_T_aret {x : Nat} {n : String} (hd : decode (tm_cc M) pc = .ok (.areturn, 1)) (ht : tm_rt M = some (.object n)) (hq : Q (.inl (some (.ref x))) h) : tm_T M d u0 Q u pc L [.ref x] h := by
  intro p l e s m args below meth c H locs ls g D h1 h2 h3 h4 h5 h6 h7 h8
  refine tm_ret (v := some (.ref x)) rfl hq h5 h6 h8 ?_
  exact W.aret h2.1 h2.2.1 (h2.2.2.2.2.2.1.trans ht) (Or.inl ⟨n, rfl⟩) (Or.inr ⟨_, rfl⟩) (fun t ht _ => ⟨rfl, ht⟩) h6.2.2 hd (hlocks := h2.2.2.2.2.2.2.1)
theorem tm_T_vret (hd : decode (tm_cc M) pc = .ok (.return_, 1)) (ht : tm_rt M = none) (hq : Q (.inl none) h) : tm_T M d u0 Q u pc L [] h := by
  intro p l e s m args below meth c H locs ls g D h1 h2 h3 h4 h5 h6 h7 h8
  refine tm_ret (v := none) rfl hq h5 h6 h8 ?_
  exact W.vret h2.1 h2.2.1 (h2.2.2.2.2.2.1.trans ht) (fun t ht _ => ⟨rfl, ht⟩) h6.2.2 hd (hlocks := h2.2.2.2.2.2.2.1)
end TMF
end
section
section TMG
variable {M : tm_M} {d u0 u : Nat} {Q : tm_O → tm_Hp → Prop} {pc : Nat} {L : List (Option Value)} {st : List Value} {h : tm_Hp}
set_option maxHeartbeats 4000000 in
set_option maxRecDepth 20000 in
theorem tm_x_ok {lf : Prop} {k : Nat → List (Option Value) → List Value → tm_Hp → Prop} {ins : Instr} {len : Nat} (hk : ∀ pc L st h, k pc L st h → tm_T M d u0 Q u pc L st h) (hlf : lf → tm_T M d u0 Q u pc L st h) (hd : decode (tm_cc M) pc = .ok (ins, len)) (hx : tm_x M lf Q k ins len pc L st h) : tm_T M d u0 Q u pc L st h := by
  unfold tm_x at hx
  split at hx
  · obtain ⟨rfl, hx⟩ := hx
    exact tm_pl (hk _ _ _ _ hx) (fun p l e R s m args below meth c H locs cells slots Z ls g hF hl kk => lv_iconst hF.1 hF.2.1 hd rfl (kk ls hl))
  · obtain ⟨rfl, hx⟩ := hx
    exact tm_pl (hk _ _ _ _ hx) (fun p l e R s m args below meth c H locs cells slots Z ls g hF hl kk => lv_lconst hF.1 hF.2.1 hd rfl (kk ls hl))
  · obtain ⟨rfl, hx⟩ := hx
    exact tm_pl (hk _ _ _ _ hx) (fun p l e R s m args below meth c H locs cells slots Z ls g hF hl kk => lv_bipush hF.1 hF.2.1 hd rfl (kk ls hl))
  · obtain ⟨rfl, hx⟩ := hx
    exact tm_pl (hk _ _ _ _ hx) (fun p l e R s m args below meth c H locs cells slots Z ls g hF hl kk => lv_sipush hF.1 hF.2.1 hd rfl (kk ls hl))
  · obtain ⟨rfl, hx⟩ := hx
    obtain ⟨v, hv, hx1⟩ := tm_ot_of hx
    have hw := tm_cn_ok hv
    exact tm_pl (hk _ _ _ _ hx1) (fun p l e R s m args below meth c H locs cells slots Z ls g hF hl kk => lv_ldc hF.1 hF.2.1 hF.2.2.2.1 (hF.2.2.2.2.1 _ hw) hd (kk ls hl))
  · obtain ⟨rfl, hx⟩ := hx
    obtain ⟨v, hv, hx1⟩ := tm_ot_of hx
    have hw := tm_cn_ok hv
    exact tm_pl (hk _ _ _ _ hx1) (fun p l e R s m args below meth c H locs cells slots Z ls g hF hl kk => lv_ldcw hF.1 hF.2.1 hF.2.2.2.1 (hF.2.2.2.2.1 _ hw) hd (kk ls hl))
  · obtain ⟨rfl, hx⟩ := hx
    obtain ⟨x, h1, hx1⟩ := tm_gI_of hx
    exact tm_pl (hk _ _ _ _ hx1) (fun p l e R s m args below meth c H locs cells slots Z ls g hF hl kk => lv_iload_n hF.1 hF.2.1 hd rfl (tm_l_get hl h1 rfl) (kk ls hl))
  · obtain ⟨rfl, hx⟩ := hx
    obtain ⟨x, h1, hx1⟩ := tm_gI_of hx
    exact tm_pl (hk _ _ _ _ hx1) (fun p l e R s m args below meth c H locs cells slots Z ls g hF hl kk => lv_iload hF.1 hF.2.1 hd (tm_l_get hl h1 rfl) (kk ls hl))
  · obtain ⟨rfl, hx⟩ := hx
    obtain ⟨x, h1, hx1⟩ := tm_gA_of hx
    exact tm_pl (hk _ _ _ _ hx1) (fun p l e R s m args below meth c H locs cells slots Z ls g hF hl kk => lv_aload_n hF.1 hF.2.1 hd rfl (tm_l_get hl h1 rfl) (kk ls hl))
  · obtain ⟨rfl, hx⟩ := hx
    obtain ⟨x, h1, hx1⟩ := tm_gA_of hx
    exact tm_pl (hk _ _ _ _ hx1) (fun p l e R s m args below meth c H locs cells slots Z ls g hF hl kk => lv_aload hF.1 hF.2.1 hd (tm_l_get hl h1 rfl) (kk ls hl))
  · obtain ⟨rfl, hn, hx⟩ := hx
    obtain ⟨x, r, rfl, hx1⟩ := tm_p1_of hx
    exact tm_pl (hk _ _ _ _ hx1) (fun p l e R s m args below meth c H locs cells slots Z ls g hF hl kk => lv_istore_n hF.1 hF.2.1 hd rfl hl hn rfl (fun ls' h' => kk ls' (tm_l_set rfl h')))
  · obtain ⟨rfl, hn, hx⟩ := hx
    obtain ⟨x, r, rfl, hx1⟩ := tm_p1_of hx
    exact tm_pl (hk _ _ _ _ hx1) (fun p l e R s m args below meth c H locs cells slots Z ls g hF hl kk => lv_istore hF.1 hF.2.1 hd hl hn rfl (fun ls' h' => kk ls' (tm_l_set rfl h')))
  · obtain ⟨rfl, hn, hx⟩ := hx
    obtain ⟨x, r, rfl, hx1⟩ := tm_pA_of hx
    exact tm_pl (hk _ _ _ _ hx1) (fun p l e R s m args below meth c H locs cells slots Z ls g hF hl kk => lv_astore_n hF.1 hF.2.1 hd rfl hl hn rfl (fun ls' h' => kk ls' (tm_l_set rfl h')))
  · obtain ⟨rfl, hn, hx⟩ := hx
    obtain ⟨x, r, rfl, hx1⟩ := tm_pA_of hx
    exact tm_pl (hk _ _ _ _ hx1) (fun p l e R s m args below meth c H locs cells slots Z ls g hF hl kk => lv_astore hF.1 hF.2.1 hd hl hn rfl (fun ls' h' => kk ls' (tm_l_set rfl h')))
  · obtain ⟨rfl, hn, hx⟩ := hx
    obtain ⟨x, h1, hx1⟩ := tm_gI_of hx
    refine tm_pl (hk _ _ _ _ hx1) (fun p l e R s m args below meth c H locs cells slots Z ls g hF hl kk => ?_)
    have hm := tm_la_in g.1 L 0 _ (.int x) h1 rfl
    rw [Nat.zero_add] at hm
    obtain ⟨j, hj⟩ := List.mem_iff_getElem?.mp hm
    exact lv_iinc hF.1 hF.2.1 hd hl hj rfl hn rfl (fun ls' h' => kk ls' (tm_l_set rfl h'))
  · obtain ⟨rfl, hx⟩ := hx
    obtain ⟨y, r, rfl, hx1⟩ := tm_p1_of hx
    obtain ⟨x, r, rfl, hx2⟩ := tm_p1_of hx1
    exact tm_pl (hk _ _ _ _ hx2) (fun p l e R s m args below meth c H locs cells slots Z ls g hF hl kk => lv_iadd hF.1 hF.2.1 hd (kk ls hl))
  · obtain ⟨rfl, hx⟩ := hx
    obtain ⟨y, r, rfl, hx1⟩ := tm_p1_of hx
    obtain ⟨x, r, rfl, hx2⟩ := tm_p1_of hx1
    exact tm_pl (hk _ _ _ _ hx2) (fun p l e R s m args below meth c H locs cells slots Z ls g hF hl kk => lv_isub hF.1 hF.2.1 hd (kk ls hl))
  · obtain ⟨rfl, hx⟩ := hx
    obtain ⟨y, r, rfl, hx1⟩ := tm_p1_of hx
    obtain ⟨x, r, rfl, hx2⟩ := tm_p1_of hx1
    exact tm_pl (hk _ _ _ _ hx2) (fun p l e R s m args below meth c H locs cells slots Z ls g hF hl kk => lv_imul hF.1 hF.2.1 hd (kk ls hl))
  · obtain ⟨rfl, hx⟩ := hx
    obtain ⟨y, r, rfl, hx1⟩ := tm_p1_of hx
    obtain ⟨x, r, rfl, hn, hx2⟩ := tm_p1_of hx1
    exact tm_pl (hk _ _ _ _ hx2) (fun p l e R s m args below meth c H locs cells slots Z ls g hF hl kk => lv_idiv hF.1 hF.2.1 hd hn (kk ls hl))
  · obtain ⟨rfl, hx⟩ := hx
    obtain ⟨y, r, rfl, hx1⟩ := tm_p1_of hx
    obtain ⟨x, r, rfl, hx2⟩ := tm_p1_of hx1
    exact tm_pl (hk _ _ _ _ hx2) (fun p l e R s m args below meth c H locs cells slots Z ls g hF hl kk => lv_iand hF.1 hF.2.1 hd (kk ls hl))
  · obtain ⟨rfl, hx⟩ := hx
    obtain ⟨y, r, rfl, hx1⟩ := tm_p1_of hx
    obtain ⟨x, r, rfl, hx2⟩ := tm_p1_of hx1
    exact tm_pl (hk _ _ _ _ hx2) (fun p l e R s m args below meth c H locs cells slots Z ls g hF hl kk => lv_ior hF.1 hF.2.1 hd (kk ls hl))
  · obtain ⟨rfl, hx⟩ := hx
    obtain ⟨y, r, rfl, hx1⟩ := tm_p1_of hx
    obtain ⟨x, r, rfl, hx2⟩ := tm_p1_of hx1
    exact tm_pl (hk _ _ _ _ hx2) (fun p l e R s m args below meth c H locs cells slots Z ls g hF hl kk => lv_ixor hF.1 hF.2.1 hd (kk ls hl))
  · obtain ⟨rfl, hx⟩ := hx
    obtain ⟨y, r, rfl, hx1⟩ := tm_p1_of hx
    obtain ⟨x, r, rfl, hx2⟩ := tm_p1_of hx1
    exact tm_pl (hk _ _ _ _ hx2) (fun p l e R s m args below meth c H locs cells slots Z ls g hF hl kk => lv_ishl hF.1 hF.2.1 hd (kk ls hl))
  · obtain ⟨rfl, hx⟩ := hx
    obtain ⟨y, r, rfl, hx1⟩ := tm_p1_of hx
    obtain ⟨x, r, rfl, hx2⟩ := tm_p1_of hx1
    exact tm_pl (hk _ _ _ _ hx2) (fun p l e R s m args below meth c H locs cells slots Z ls g hF hl kk => lv_ishr hF.1 hF.2.1 hd (kk ls hl))
  · obtain ⟨rfl, hx⟩ := hx
    obtain ⟨y, r, rfl, hx1⟩ := tm_p1_of hx
    obtain ⟨x, r, rfl, hx2⟩ := tm_p1_of hx1
    exact tm_pl (hk _ _ _ _ hx2) (fun p l e R s m args below meth c H locs cells slots Z ls g hF hl kk => lv_iushr hF.1 hF.2.1 hd rfl (kk ls hl))
  · obtain ⟨rfl, hx⟩ := hx
    obtain ⟨x, r, rfl, hx1⟩ := tm_p1_of hx
    exact tm_pl (hk _ _ _ _ hx1) (fun p l e R s m args below meth c H locs cells slots Z ls g hF hl kk => lv_i2l hF.1 hF.2.1 hd rfl (kk ls hl))
  · obtain ⟨rfl, hx⟩ := hx
    obtain ⟨y, r, rfl, hx1⟩ := tm_pJ_of hx
    obtain ⟨x, r, rfl, hx2⟩ := tm_pJ_of hx1
    exact tm_pl (hk _ _ _ _ hx2) (fun p l e R s m args below meth c H locs cells slots Z ls g hF hl kk => W.lcmp hF.1 hF.2.1 hd (kk ls hl))
  · obtain ⟨rfl, hx⟩ := hx
    obtain ⟨v, r, rfl, hc, hx1⟩ := tm_pV_of hx
    exact tm_pl (hk _ _ _ _ hx1) (fun p l e R s m args below meth c H locs cells slots Z ls g hF hl kk => lv_dup hF.1 hF.2.1 hd (by rw [tm_v_cat]; exact hc) (kk ls hl))
  · obtain ⟨rfl, hx⟩ := hx
    obtain ⟨v, r, rfl, hc, hx1⟩ := tm_pV_of hx
    exact tm_pl (hk _ _ _ _ hx1) (fun p l e R s m args below meth c H locs cells slots Z ls g hF hl kk => lv_pop hF.1 hF.2.1 hd (by rw [tm_v_cat]; exact hc) (kk ls hl))
  · obtain ⟨rfl, hx⟩ := hx
    obtain ⟨v, r, rfl, hc, hx1⟩ := tm_pV_of hx
    obtain ⟨w, r, rfl, hc2, hx2⟩ := tm_pV_of hx1
    exact tm_pl (hk _ _ _ _ hx2) (fun p l e R s m args below meth c H locs cells slots Z ls g hF hl kk => lv_dup_x1 hF.1 hF.2.1 hd (by rw [tm_v_cat]; exact hc) (by rw [tm_v_cat]; exact hc2) (kk ls hl))
  · obtain ⟨rfl, hx⟩ := hx
    obtain ⟨v, r, rfl, hc, hx1⟩ := tm_pV_of hx
    obtain ⟨w, r, rfl, hc2, hx2⟩ := tm_pV_of hx1
    obtain ⟨z, r, rfl, hc3, hx3⟩ := tm_pV_of hx2
    exact tm_pl (hk _ _ _ _ hx3) (fun p l e R s m args below meth c H locs cells slots Z ls g hF hl kk => lv_dup_x2 hF.1 hF.2.1 hd (by rw [tm_v_cat]; exact hc) (by rw [tm_v_cat]; exact hc2) (by rw [tm_v_cat]; exact hc3) (kk ls hl))
  · obtain ⟨rfl, hx⟩ := hx
    obtain ⟨v, r, rfl, hc, hx1⟩ := tm_pV_of hx
    obtain ⟨w, r, rfl, hc2, hx2⟩ := tm_pV_of hx1
    exact tm_pl (hk _ _ _ _ hx2) (fun p l e R s m args below meth c H locs cells slots Z ls g hF hl kk => lv_dup2_11 hF.1 hF.2.1 hd (by rw [tm_v_cat]; exact hc) (by rw [tm_v_cat]; exact hc2) (kk ls hl))
  · obtain ⟨rfl, hp, hx⟩ := hx
    obtain ⟨x, r, rfl, h1, h2⟩ := tm_p1_of hx
    exact tm_T_ifc hd hp (fun q => hk _ _ _ _ (h1 q)) (fun q => hk _ _ _ _ (h2 q))
  · obtain ⟨rfl, hp, hx⟩ := hx
    obtain ⟨y, r, rfl, hx1⟩ := tm_p1_of hx
    obtain ⟨x, r, rfl, h1, h2⟩ := tm_p1_of hx1
    exact tm_T_icmp hd hp (fun q => hk _ _ _ _ (h1 q)) (fun q => hk _ _ _ _ (h2 q))
  · obtain ⟨rfl, hp, hx⟩ := hx
    exact tm_pl (hk _ _ _ _ hx) (fun p l e R s m args below meth c H locs cells slots Z ls g hF hl kk => lv_goto hF.1 hF.2.1 hd (tm_tgt hp) (kk ls hl))
  · obtain ⟨rfl, hx⟩ := hx
    obtain ⟨⟨ci, j⟩, hq, hx1⟩ := tm_ot_of hx
    obtain ⟨a, r, rfl, hx2⟩ := tm_pA_of hx1
    obtain ⟨fs, hfs, hx3⟩ := tm_cO_of hx2
    obtain ⟨v, hv, hx4⟩ := tm_fv_of hx3
    exact tm_T_getf hd hq hfs hv (hk _ _ _ _ hx4)
  · obtain ⟨rfl, hx⟩ := hx
    obtain ⟨⟨ci, j, b⟩, hq, hx1⟩ := tm_ot_of hx
    cases b
    · obtain ⟨v, r, rfl, hx2⟩ := tm_pA_of hx1
      obtain ⟨a, r, rfl, hx3⟩ := tm_pA_of hx2
      obtain ⟨fs, hfs, hl, hx4⟩ := tm_cO_of hx3
      exact tm_T_putf hd hq (Or.inr ⟨rfl, _, rfl⟩) hfs hl (hk _ _ _ _ hx4)
    · obtain ⟨v, r, rfl, hx5⟩ := tm_p1_of hx1
      obtain ⟨a, r, rfl, hx6⟩ := tm_pA_of hx5
      obtain ⟨fs, hfs, hl, hx7⟩ := tm_cO_of hx6
      exact tm_T_putf hd hq (Or.inl ⟨rfl, _, rfl⟩) hfs hl (hk _ _ _ _ hx7)
  · obtain ⟨rfl, hx⟩ := hx
    obtain ⟨i, r, rfl, hx1⟩ := tm_p1_of hx
    obtain ⟨a, r, rfl, hx2⟩ := tm_pA_of hx1
    obtain ⟨n, f, hfs, hi, hx3⟩ := tm_cI_of hx2
    exact tm_T_iald hd hfs hi (hk _ _ _ _ hx3)
  · obtain ⟨rfl, hx⟩ := hx
    obtain ⟨i, r, rfl, hx1⟩ := tm_p1_of hx
    obtain ⟨a, r, rfl, hx2⟩ := tm_pA_of hx1
    obtain ⟨n, f, hfs, hi, hx3⟩ := tm_cZ_of hx2
    exact tm_T_zald hd hfs hi (hk _ _ _ _ hx3)
  · obtain ⟨rfl, hx⟩ := hx
    obtain ⟨i, r, rfl, hx1⟩ := tm_p1_of hx
    obtain ⟨a, r, rfl, hx2⟩ := tm_pA_of hx1
    obtain ⟨n, f, hfs, hi, hx3⟩ := tm_cJ_of hx2
    exact tm_T_lald hd hfs hi (hk _ _ _ _ hx3)
  · obtain ⟨rfl, hx⟩ := hx
    obtain ⟨i, r, rfl, hx1⟩ := tm_p1_of hx
    obtain ⟨a, r, rfl, hx2⟩ := tm_pA_of hx1
    obtain ⟨n, f, hfs, hi, hx3⟩ := tm_cQ_of hx2
    obtain ⟨b, hb, hx4⟩ := tm_rq_of hx3
    exact tm_T_aald hd hfs hi hb (hk _ _ _ _ hx4)
  · obtain ⟨rfl, hx⟩ := hx
    obtain ⟨x, r, rfl, hx1⟩ := tm_p1_of hx
    obtain ⟨i, r, rfl, hx2⟩ := tm_p1_of hx1
    obtain ⟨a, r, rfl, hx3⟩ := tm_pA_of hx2
    obtain ⟨n, f, hfs, ha, hi, hx4⟩ := tm_cI_of hx3
    exact tm_T_iast hd hfs ha hi (hk _ _ _ _ hx4)
  · obtain ⟨rfl, hx⟩ := hx
    obtain ⟨x, r, rfl, hx1⟩ := tm_p1_of hx
    obtain ⟨i, r, rfl, hx2⟩ := tm_p1_of hx1
    obtain ⟨a, r, rfl, hx3⟩ := tm_pA_of hx2
    obtain ⟨n, f, hfs, hi, hx4⟩ := tm_cZ_of hx3
    exact tm_T_zast hd hfs hi (hk _ _ _ _ hx4)
  · obtain ⟨rfl, hx⟩ := hx
    obtain ⟨x, r, rfl, hx1⟩ := tm_pJ_of hx
    obtain ⟨i, r, rfl, hx2⟩ := tm_p1_of hx1
    obtain ⟨a, r, rfl, hx3⟩ := tm_pA_of hx2
    obtain ⟨n, f, hfs, hi, hx4⟩ := tm_cJ_of hx3
    exact tm_T_last hd hfs hi (hk _ _ _ _ hx4)
  · obtain ⟨rfl, hx⟩ := hx
    obtain ⟨a, r, rfl, hx1⟩ := tm_pA_of hx
    obtain ⟨n, f, hfs, hx2⟩ := tm_cI_of hx1
    exact tm_T_alen hd hfs (hk _ _ _ _ hx2)
  · obtain ⟨rfl, hx⟩ := hx
    obtain ⟨x, r, rfl, rfl, ht, hq⟩ := tm_p1_of hx
    exact tm_T_iret hd ht hq
  · obtain ⟨rfl, hx⟩ := hx
    obtain ⟨x, r, rfl, rfl, ⟨n, ht⟩, hq⟩ := tm_pA_of hx
    exact tm_T_aret hd ht hq
  · obtain ⟨rfl, rfl, ht, hq⟩ := hx
    exact tm_T_vret hd ht hq
  · exact hlf hx
  · exact hlf hx
  · exact hlf hx
  · exact hlf hx
  · exact hlf hx
  · exact hx.elim
theorem tm_s_ok {S : List Nat} {n : Nat} (hw : ∀ pc L st h, tm_w M d u0 Q u S n pc L st h → tm_T M d u0 Q u pc L st h) (hx : tm_s M d u0 Q u S n pc L st h) : tm_T M d u0 Q u pc L st h := by
  unfold tm_s tm_on at hx
  split at hx
  · rename_i i len he
    exact tm_x_ok hw (fun q => q) he hx
  · exact hx.elim
theorem tm_w_ok {S : List Nat} : ∀ (n pc : Nat) (L : List (Option Value)) (st : List Value) (h : tm_Hp), tm_w M d u0 Q u S n pc L st h → tm_T M d u0 Q u pc L st h
  | 0, _, _, _, _, hx => hx
  | n + 1, pc, L, st, h, hx => by
    rw [tm_w_s] at hx
    cases hc : S.contains pc with
    | true => rw [hc] at hx; exact hx
    | false => rw [hc] at hx; exact tm_s_ok (fun pc L st h => tm_w_ok n pc L st h) hx
/-- go on from here: n instructions, up to a place in S -/
theorem tm_run (S : List Nat) (n : Nat) (hx : tm_s M d u0 Q u S n pc L st h) : tm_T M d u0 Q u pc L st h := tm_s_ok (tm_w_ok n) hx
end TMG
section TMH
variable {M : tm_M} {d u0 u : Nat} {Q : tm_O → tm_Hp → Prop} {S : List Nat} {n pc : Nat} {L : List (Option Value)} {st : List Value} {h : tm_Hp}
theorem tm_s_d {ins : Instr} {len : Nat} (hd : decode (tm_cc M) pc = .ok (ins, len)) : tm_s M d u0 Q u S n pc L st h = tm_x M (tm_T M d u0 Q u pc L st h) Q (tm_w M d u0 Q u S n) ins len pc L st h := by
  unfold tm_s
  rw [hd]
  rfl
theorem tm_and {P : Prop} {c : Prop} (h : c) : (c ∧ P) = P := propext ⟨fun q => q.2, fun q => ⟨h, q⟩⟩
end TMH
end
section
section TMI
theorem tm_kp_at {args a' : Array Value} {s U : State} (hW : s.WarmedH U.vm) {w : Cond} (hk : tm_kp w = true) (hw : w.before args s = true) : w.before a' U = true := by
  have key : (w.onTables && (w.keepsH || w.keepsFace)) = true → w.before a' U = true := by
    intro hk
    simp only [Bool.and_eq_true, Bool.or_eq_true] at hk
    obtain ⟨h1, h2⟩ := hk
    rcases h2 with h2 | h2
    · have := Cond.onTables_warmH (T := U) (args' := a') hW h1 h2 hw
      rwa [State.setVm_self] at this
    · have h3 : w.before args (s.setVm U.vm) = true := Cond.before_shiftedFace (State.Shifted.of_warmed hW) w h2 hw
      rw [Cond.onTables_vm (A' := a') (U' := U) U.vm w h1] at h3
      rwa [State.setVm_self] at h3
  cases w <;> first | exact key hk | exact word_at hW (Or.inr ⟨_, rfl⟩) hw
theorem tm_ws_at {args a' : Array Value} {s U : State} (hW : s.WarmedH U.vm) (h : ∀ w ∈ tm_ws, w.before args s = true) : ∀ w ∈ tm_ws, w.before a' U = true :=
  fun w hw => tm_kp_at hW (tm_ws_kp w hw) (h w hw)
/-- the heads of exceptions, in a heap where what isn't ours is as it was -/
theorem tm_X.at {g : tm_G} {D : va_G} {s U : State} {locs : List Loc} (hW : s.WarmedH U.vm) (h0 : ∃ h0, tm_R g D h0 s s.heap) (hS : va_S (tm_A g s.heap.size) s.heap U.heap locs) (hX : tm_X s) : tm_X U := by
  obtain ⟨h1, h2, h3⟩ := hX
  obtain ⟨h0, hR0⟩ := h0
  refine ⟨?_, fun q hq => ?_, fun q hq => (h3 q hq).moved hW.alike⟩
  · have hst : ∀ (a : Nat) (cell : Cell), s.heap[a]? = some cell → cell.vm.isStatics = true → U.heap[a]? = some cell := by
      intro a cell ha hs
      have hlt := (Array.getElem?_eq_some_iff.mp ha).1
      rw [hS.2.1 a hlt ?_, ha]
      rintro (⟨k, hk, rfl⟩ | q)
      · have := hR0.1 k _ (tm_W_get g h0 hk)
        have hf := tm_nostat this ha
        rw [hf] at hs
        cases hs
      · omega
    exact fun q hq => (h1 q hq).at hW.alike hst
  · obtain ⟨a, ha⟩ := h2 q hq
    exact ⟨a, vk_R.warm hW ha⟩
theorem tm_E.at {g : tm_G} {D : va_G} {s U : State} {locs : List Loc} (hW : s.WarmedH U.vm) (h0 : ∃ h0, tm_R g D h0 s s.heap) (hS : va_S (tm_A g s.heap.size) s.heap U.heap locs) (hE : tm_E g D s) : tm_E g D U :=
  ⟨va_K.moved hW.alike hE.1, hE.2.1, hE.2.2.at hW h0 hS⟩
theorem tm_E.calling {g : tm_G} {D : va_G} {U : State} {fr : JFrame} {mk : MethodId} {a : Array Value} (hE : tm_E g D U) : tm_E g D (U.calling fr mk a) := by
  obtain ⟨h1, h2, h3, h4, h5⟩ := hE
  refine ⟨va_K.moved (u := U) (U := U.calling fr mk a) (Vm.Alike.refl U.vm) h1, h2, fun q hq => (h3 q hq).at (Vm.Alike.refl U.vm) (fun _ _ h _ => h), fun q hq => ?_, fun q hq => (h5 q hq).moved (Vm.Alike.refl U.vm)⟩
  obtain ⟨b, hb⟩ := h4 q hq
  exact ⟨b, vk_R.same rfl hb⟩
/-- a callee's way, to its return or to its throw -/
theorem tm_back {p : Program} {l : Launch} {e : Env} {R : Room} {s : State} {m : MethodId} {sargs : Array Value} {below : List Frame} {meth : Method} {c : Code} {U : State} {Ls : List Loc} {c0 s0 : Nat} (X : Stand p l e R s m sargs below meth c U Ls c0 s0)
    {y : MethodName} {S : Spec} {P : Array Value → State → Prop} {K : Program → Env → List Frame → State → Array Value → Prop} {Qf : Array Value → State → Outcome → State → Prop} {g : JFrame} {ig : Instr} {len k n : Nat} {mk : MethodId} {a : Array Value} {Pq : List Loc → Prop}
    (hg : g.method = m) (hdg : decode c.code g.pc = .ok (ig, len)) (hM : MetFree l y S P K Qf) (happ : S.appliesLoose y e.platform (U.calling g mk a) = true) (hP : P a (U.calling g mk a)) (hK : K p e (U.setTop g).frames (U.calling g mk a) a)
    (hQ : ∀ o t, Qf a (U.calling g mk a) o t → ∃ L, (U.calling g mk a).WarmedH t.vm ∧ (U.calling g mk a).sameButNew ({ t with vm := (U.calling g mk a).vm } : State) L k n ∧ Pq L) :
    ∃ (o : Outcome) (t : State) (L : List Loc) (T' : State), Qf a (U.calling g mk a) o t ∧ Pq L ∧ Stand p l e R s m sargs below meth c T' (Ls ++ L) (c0 + k) (s0 + n) ∧ T'.heap = t.heap ∧
      ((∃ v, o = .returned v ∧ Steps p.tables e below (doInvoke e (U.setTop g) [] mk a).1 (T'.setTop { g with pc := g.pc + len, stack := v.toList ++ g.stack })) ∨
       (∃ x, o = .threw x ∧ Steps p.tables e below (doInvoke e (U.setTop g) [] mk a).1 ((T'.setTop g).pushFrame (.throwing x)))) := by
  have h : At U g.method c below := by rw [hg]; exact X.here
  obtain ⟨mid, hmid⟩ := h.above
  have hfr : (U.setTop g).frames = (.java g :: mid) ++ below := by rw [State.frames_setTop' g h.top, hmid]; rfl
  obtain ⟨o, t, hsteps, -, hend, hq⟩ := Steps.callFree hM p X.admits X.cas X.clock (acts := []) hfr happ hP hK
  rw [State.frames_setTop' g h.top, X.tail] at hend
  obtain ⟨L, hW, hsm, hL⟩ := hQ o t hq
  cases o with
  | returned v =>
    obtain ⟨T', X', -, -, ht⟩ := X.outOf hg hdg hend hW hsm
    refine ⟨_, t, L, T', hq, hL, X', ?_, Or.inl ⟨v, rfl, ?_⟩⟩
    · rw [ht]; rfl
    · rw [← ht]; exact hsteps
  | threw x =>
    obtain ⟨T', X', -, -, ht⟩ := X.outOfThrown hg hend hW hsm
    refine ⟨_, t, L, T', hq, hL, X', ?_, Or.inr ⟨x, rfl, ?_⟩⟩
    · rw [ht]; rfl
    · rw [← ht]; exact hsteps
end TMI
theorem tm_cov {b : Bool} (h : (!b) = true) : b = false := by cases b <;> first | rfl | cases h
section TMJ
/-- the frame at pc in which exception number k is on its way -/
def tm_H (M : tm_M) (d u0 : Nat) (Q : tm_O → tm_Hp → Prop) (u pc : Nat) (L : List (Option Value)) (k : Nat) (h : tm_Hp) : Prop :=
  ∀ (p : Program) (l : Launch) (e : Env) (s : State) (m : MethodId) (args : Array Value) (below : List Frame) (meth : Method) (c : Code) (H : Heap) (locs : List Loc) (ls : Array Slot) (g : tm_G) (D : va_G) (q : Addr) (ce : Cell) (rest : List Value),
    l.stackTraces = false → tm_F M p s m args meth c → tm_E g D s → (∃ h0, tm_R g D h0 s s.heap) → tm_R g D h s H → va_S (tm_A g s.heap.size) s.heap H locs → lv_has ls (tm_nL M) (tm_l g.1 L) → u ≤ u0 →
    H[q]? = some ce → ce.vm = .none → s.vm.findClass (tm_ex k) = some ce.cls →
    ∀ T : State, T.heap = H → Stand p l e (tm_rm d u0) s m args below meth c T locs u (6 * u) → ∃ t, Steps p.tables e below ((T.setTop (F0 m pc ls rest)).pushFrame (.throwing q)) t ∧ tm_Z below g D Q u0 s t
variable {M : tm_M} {d u0 u : Nat} {Q : tm_O → tm_Hp → Prop} {pc : Nat} {L : List (Option Value)} {st : List Value} {h : tm_Hp}
theorem tm_H_out {k : Nat} (hout : (tableOf (tm_hh M)).all (fun x => !covers x pc) = true) (hq : Q (.inr k) h) : tm_H M d u0 Q u pc L k h := by
  intro p l e s m args below meth c H locs ls g D q ce rest h1 h2 h3 h4 h5 h6 h7 h8 h9 h10 h11 T hT X
  have ho : ∀ x ∈ c.exceptionTable.toList, covers x pc = false := by
    intro x hx
    rw [h2.2.2.2.2.2.2.2] at hx
    have hc9 := List.all_eq_true.mp hout x hx
    exact tm_cov hc9
  obtain ⟨st1, hrun, hend, hW, hsm⟩ := X.leaveThrown q (g := F0 m pc ls rest) rfl rfl rfl ho h2.2.2.2.2.2.2.1
  refine ⟨_, st1, .threw q, hrun, hend, .inr k, h, locs, hq, ⟨q, ce, rfl, ?_, h10, h11⟩, ?_, ?_, hW, hsm.mono h8 (by omega), h6.2.2⟩
  · show T.heap[q]? = some ce
    rw [hT]; exact h9
  · show tm_R g D h s T.heap
    rw [hT]; exact h5
  · exact h6.F hT
/-- a method that can be called -/
def tm_ok (N : tm_M) : Prop := tm_cd N ∈ tm_ws ∧ Cond.initialized (tm_y N).cls ∈ tm_ws ∧ (tm_y N).cls ≠ "java/lang/invoke/MethodHandle" ∧ (tm_y N).cls ≠ "java/lang/invoke/VarHandle" ∧ tm_nL N ≤ 40
def tm_lk (M N : tm_M) (i : Nat) : Prop := Cond.methodLink (tm_own M) i (tm_y N) ∈ tm_ws ∨ ∃ host, Cond.methodLinkNest (tm_own M) i (tm_y N) host ∈ tm_ws
theorem tm_cd_spec {N : tm_M} {args : Array Value} {s : State} (h : (tm_cd N).before args s = true) : ∃ m meth c, s.methodNamed? (tm_y N) = some m ∧ s.vm.method? m = some meth ∧ meth.code = some c ∧ c.maxLocals = tm_nL N ∧ parseMethodDescriptor (tm_y N).desc = some meth.sig := by
  unfold tm_cd at h
  split at h
  · obtain ⟨m, hn⟩ := Cond.code_named h
    obtain ⟨meth, c, h1, h2, -, h4, -, -, -, h8⟩ := Cond.code_spec hn h
    exact ⟨m, meth, c, hn, h1, h2, h4, h8⟩
  · obtain ⟨m, meth, c, hn, h1, h2, -, h4, -, -, -, h8⟩ := Cond.codeWith_spec h
    exact ⟨m, meth, c, hn, h1, h2, h4, h8⟩
/-- behind the instruction's own step: the contract's two ends -/
theorem tm_inv {N : tm_M} {d' u' : Nat} {av rest : List Value} {Q' : tm_O → tm_Hp → Prop} (hN : tm_ok N) (hr : (rest.map fun v => v.category).sum ≤ 8) (hD : d' + 1 ≤ d) (hu : u + u' ≤ u0) (hC : tm_C N d' u' av h Q')
    (k1 : ∀ v h', Q' (.inl v) h' → tm_T M d u0 Q (u + u') (pc + 3) L (v.toList ++ rest) h') (k2 : ∀ k h', Q' (.inr k) h' → tm_H M d u0 Q (u + u') pc L k h')
    {p : Program} {l : Launch} {e : Env} {s : State} {m : MethodId} {args : Array Value} {below : List Frame} {meth : Method} {c : Code} {H : Heap} {locs : List Loc} {ls : Array Slot} {g : tm_G} {D : va_G}
    (h1 : l.stackTraces = false) (h2 : tm_F M p s m args meth c) (h3 : tm_E g D s) (h4 : ∃ h0, tm_R g D h0 s s.heap) (h5 : tm_R g D h s H) (h6 : va_S (tm_A g s.heap.size) s.heap H locs) (h7 : lv_has ls (tm_nL M) (tm_l g.1 L))
    {T : State} {vm₁ : Vm} {mk : MethodId} {ig : Instr} (hT : T.heap = H) (X : Stand p l e (tm_rm d u0) s m args below meth c (T.setVm vm₁) locs u (6 * u)) (hdg : decode c.code pc = .ok (ig, 3)) (hmk : s.methodNamed? (tm_y N) = some mk) :
    ∃ t, Steps p.tables e below (doInvoke e ((T.setVm vm₁).setTop (F0 m pc ls (rest.map (tm_v g.1)))) [] mk (av.map (tm_v g.1)).toArray).1 t ∧ tm_Z below g D Q u0 s t := by
  obtain ⟨n1, n2, n3, n4, n5⟩ := hN
  have hW₁ : s.WarmedH vm₁ := X.warmed
  obtain ⟨U, hU⟩ : ∃ U, U = T.setVm vm₁ := ⟨_, rfl⟩
  have hUh : U.heap = H := by rw [hU]; exact hT
  have hUv : U.vm = vm₁ := by rw [hU]; rfl
  rw [← hU] at X ⊢
  have hWU : s.WarmedH U.vm := by rw [hUv]; exact hW₁
  have hcat : ((rest.map (tm_v g.1)).map fun v => v.category).sum = (rest.map fun v => v.category).sum := by
    rw [List.map_map]
    congr 1
    apply List.map_congr_left
    intro v _
    exact tm_v_cat g.1 v
  have hwords : ∀ w ∈ tm_ws, ∀ a', w.before a' U = true := fun w hw a' => tm_ws_at hWU h2.2.2.2.2.1 w hw
  obtain ⟨mY, methY, cY, hnY, hmY, hcY, hlY, -⟩ := tm_cd_spec (hwords _ n1 (av.map (tm_v g.1)).toArray)
  have hmkU : U.methodNamed? (tm_y N) = some mk := X.named hmk
  cases hmkU.symm.trans hnY
  obtain ⟨kY, hkY, -⟩ := className_of_methodNamed hmkU
  have hinitY : kY.init = .initialized := Cond.initialized_spec (findClass_of_methodNamed hmkU) hkY (hwords _ n2 #[])
  have hat : At U m c below := X.here
  have hpre : (headSpec (tm_cd N :: tm_ws) (tm_rm d' u')).pre.before (av.map (tm_v g.1)).toArray U = true := by
    refine atoms_intro fun w hw => ?_
    rcases List.mem_cons.mp hw with rfl | hw
    · exact hwords _ n1 _
    · exact hwords _ hw _
  have hmon : (F0 m pc ls (rest.map (tm_v g.1))).monitorRoom = 0 := by
    have := lv_room (m := m) (pc := pc) (ls := ls) (rest := rest.map (tm_v g.1)) (st := []) (Nat.zero_le _)
    first | rfl | (simp [JFrame.monitorRoom])
  have hsz : ls.size = c.maxLocals := h7.1.trans h2.2.2.1.symm
  have happ : (headSpec (tm_cd N :: tm_ws) (tm_rm d' u')).appliesLoose (tm_y N) e.platform (U.calling (F0 m pc ls (rest.map (tm_v g.1))) mk (av.map (tm_v g.1)).toArray) = true :=
    Spec.appliesLoose_calling (g := F0 m pc ls (rest.map (tm_v g.1))) hat hdg hmkU hkY hinitY
      (X.room_calling (g := F0 m pc ls (rest.map (tm_v g.1))) (R' := tm_rm d' u') hsz hmY hcY (by show d' + 1 ≤ d; exact hD) (by
        rw [hmon, hcat, hlY]
        show 2 * 0 + (rest.map fun v => v.category).sum + (tm_nL N + 11) + 64 * d' ≤ 64 * d
        omega) (by show u + u' ≤ u0; exact hu) (by show 6 * u + 6 * u' ≤ 6 * u0; omega)) hpre
  have hEU : tm_E g D U := tm_E.at hWU h4 (by rw [hUh]; exact h6) h3
  have hRU : tm_R g D h U U.heap := by rw [hUh]; exact h5.moved hWU.alike
  have hP : (av.map (tm_v g.1)).toArray = (av.map (tm_v g.1)).toArray ∧ tm_E g D (U.calling (F0 m pc ls (rest.map (tm_v g.1))) mk (av.map (tm_v g.1)).toArray) ∧ tm_R g D h (U.calling (F0 m pc ls (rest.map (tm_v g.1))) mk (av.map (tm_v g.1)).toArray) (U.calling (F0 m pc ls (rest.map (tm_v g.1))) mk (av.map (tm_v g.1)).toArray).heap := by
    refine ⟨rfl, tm_E.calling hEU, ?_⟩
    exact hRU.moved (Vm.Alike.refl U.vm)
  obtain ⟨o, t, Lw, T', hq, hL, X', hT', hor⟩ := tm_back X (g := F0 m pc ls (rest.map (tm_v g.1))) (mk := mk) (a := (av.map (tm_v g.1)).toArray) (k := u') (n := 6 * u') (Pq := fun L => ∀ q ∈ L, tm_A g H.size q.base) rfl hdg (hC l g D h1) happ hP trivial
    (fun o t hq => by
      obtain ⟨o', h', Ls, b1, b2, b3, b4, b5, b6, b7⟩ := hq
      refine ⟨Ls, b5, b6, fun q hq => ?_⟩
      have := b7 q hq
      have e9 : (U.calling (F0 m pc ls (rest.map (tm_v g.1))) mk (av.map (tm_v g.1)).toArray).heap.size = H.size := by rw [← hUh]; rfl
      rwa [e9] at this)
  obtain ⟨o', h', Ls, b1, b2, b3, b4, b5, b6, b7⟩ := hq
  have e9 : (U.calling (F0 m pc ls (rest.map (tm_v g.1))) mk (av.map (tm_v g.1)).toArray).heap = H := by rw [← hUh]; rfl
  have e8 : (U.calling (F0 m pc ls (rest.map (tm_v g.1))) mk (av.map (tm_v g.1)).toArray).vm = U.vm := rfl
  obtain ⟨h0, hR0⟩ := h4
  have hAA : ∀ q, tm_A g H.size q → tm_A g s.heap.size q := by
    rintro q (hq | hq)
    · exact Or.inl hq
    · exact Or.inr (Nat.le_trans h6.1 hq)
  have hS' : va_S (tm_A g s.heap.size) s.heap T'.heap (locs ++ Lw) := by
    rw [hT']
    unfold va_F at b4
    rw [e9] at b4
    refine ⟨Nat.le_trans h6.1 b4.1, fun q hq hn => ?_, fun q hq => ?_⟩
    · rw [b4.2 q (Nat.lt_of_lt_of_le hq h6.1) (fun z => hn (hAA _ z)), h6.2.1 q hq hn]
    · rcases List.mem_append.mp hq with hq | hq
      · exact h6.2.2 q hq
      · exact hAA _ (hL q hq)
  have hR' : tm_R g D h' s T'.heap := by
    rw [hT']
    refine b3.moved ?_
    rw [e8]
    exact hWU.alike.symm
  have e7 : 6 * u + 6 * u' = 6 * (u + u') := by omega
  rw [e7] at X'
  rcases hor with ⟨v, rfl, hst⟩ | ⟨x, rfl, hst⟩
  · cases o' with
    | inr k =>
      obtain ⟨q, ce, hx, -⟩ := b2
      cases hx
    | inl w =>
      have hv : v = w.map (tm_v g.1) := Outcome.returned.inj b2
      have w1 := k1 w h' b1 p l e s m args below meth c T'.heap (locs ++ Lw) ls g D h1 h2 h3 ⟨h0, hR0⟩ hR' hS' h7 (Nat.le_trans hu (Nat.le_refl _))
      obtain ⟨t2, a1, a2⟩ := w1 T' rfl X'
      refine ⟨t2, hst.trans ?_, a2⟩
      have e6 : v.toList ++ rest.map (tm_v g.1) = (w.toList ++ rest).map (tm_v g.1) := by
        rw [hv]
        cases w <;> rfl
      rw [← e6] at a1
      exact a1
  · cases o' with
    | inl w => cases b2
    | inr k =>
      obtain ⟨q, ce, hx, c1, c2, c3⟩ := b2
      cases hx
      have hcl : s.vm.findClass (tm_ex k) = some ce.cls := by
        rw [e8, hWU.alike.findClass] at c3
        exact c3
      obtain ⟨t2, a1, a2⟩ := k2 k h' b1 p l e s m args below meth c T'.heap (locs ++ Lw) ls g D x ce (rest.map (tm_v g.1)) h1 h2 h3 ⟨h0, hR0⟩ hR' hS' h7 hu (by rw [hT']; exact c1) c2 hcl T' rfl X'
      exact ⟨t2, hst.trans a1, a2⟩
theorem tm_dk {v9 : Option Value} {h9 : tm_Hp} {rest : List Value} (k1 : tm_T M d u0 Q u pc L (v9.toList ++ rest) h9) : ∀ v h1, ((Sum.inl v : tm_O) = .inl v9 ∧ h1 = h9) → tm_T M d u0 Q u pc L (v.toList ++ rest) h1 := by
  rintro v h1 ⟨e, rfl⟩
  cases e
  exact k1
/-- a static call -/
theorem tm_callS {N : tm_M} {i d' u' : Nat} {av rest : List Value} {Q' : tm_O → tm_Hp → Prop} (hd : decode (tm_cc M) pc = .ok (.invokestatic i, 3)) (hl : tm_lk M N i) (hN : tm_ok N) (hs : Cond.static (tm_y N) ∈ tm_ws) (hn : (parseMethodDescriptor (tm_y N).desc).map (fun d => d.parameters.length) = some av.length)
    (hr : (rest.map fun v => v.category).sum ≤ 8) (hD : d' + 1 ≤ d) (hu : u + u' ≤ u0) (hC : tm_C N d' u' av h Q')
    (k1 : ∀ v h', Q' (.inl v) h' → tm_T M d u0 Q (u + u') (pc + 3) L (v.toList ++ rest) h') (k2 : ∀ k h', Q' (.inr k) h' → tm_H M d u0 Q (u + u') pc L k h') : tm_T M d u0 Q u pc L (av.reverse ++ rest) h := by
  intro p l e s m args below meth c H locs ls g D h1 h2 h3 h4 h5 h6 h7 h8 T hT X
  have hst : (F0 m pc ls ((av.reverse ++ rest).map (tm_v g.1))).stack = (av.map (tm_v g.1)).reverse ++ rest.map (tm_v g.1) := by
    show (av.reverse ++ rest).map (tm_v g.1) = _
    rw [List.map_append, List.map_reverse]
  obtain ⟨mk, methM, cM, hnamed, hmethM, -, -, hsigM⟩ := tm_cd_spec (h2.2.2.2.2.1 _ hN.1)
  have hstatic : methM.isStatic = true := Cond.static_spec hnamed hmethM (h2.2.2.2.2.1 _ hs)
  obtain ⟨kP, hkP, -⟩ := className_of_methodNamed hnamed
  have hinitP : kP.init = .initialized := Cond.initialized_spec (findClass_of_methodNamed hnamed) hkP (h2.2.2.2.2.1 _ hN.2.1)
  have hlen : (av.map (tm_v g.1)).length = methM.sig.parameters.length := by
    rw [hsigM] at hn
    rw [List.length_map]
    exact (Option.some.inj hn).symm
  have hdg : decode c.code pc = .ok (.invokestatic i, 3) := by rw [h2.2.1]; exact hd
  rcases hl with hl | ⟨host, hl⟩
  · obtain ⟨vm₁, X₁, hstep⟩ := X.invokestatic h2.1 h2.2.2.2.1 (h2.2.2.2.2.1 _ hl) hnamed hmethM hstatic hkP hinitP ⟨hN.2.2.1, hN.2.2.2.1⟩ (g := F0 m pc ls ((av.reverse ++ rest).map (tm_v g.1))) rfl (argsL := av.map (tm_v g.1)) (rest := rest.map (tm_v g.1)) hlen hst hdg
    obtain ⟨t, a1, a2⟩ := tm_inv hN hr hD hu hC k1 k2 h1 h2 h3 h4 h5 h6 h7 hT X₁ hdg hnamed
    exact ⟨t, hstep _ fun acts => by rw [doInvoke_state]; exact a1, a2⟩
  · obtain ⟨vm₁, X₁, hstep⟩ := X.invokestaticNest h2.1 h2.2.2.2.1 (h2.2.2.2.2.1 _ hl) hnamed hmethM hstatic hkP hinitP ⟨hN.2.2.1, hN.2.2.2.1⟩ (g := F0 m pc ls ((av.reverse ++ rest).map (tm_v g.1))) rfl (argsL := av.map (tm_v g.1)) (rest := rest.map (tm_v g.1)) hlen hst hdg
    obtain ⟨t, a1, a2⟩ := tm_inv hN hr hD hu hC k1 k2 h1 h2 h3 h4 h5 h6 h7 hT X₁ hdg hnamed
    exact ⟨t, hstep _ fun acts => by rw [doInvoke_state]; exact a1, a2⟩
/-- a call on an object of the world; the method is its class's own -/
theorem tm_callV {N : tm_M} {i d' u' a ci : Nat} {C : String} {Tb : u_T} {Nf : Nat} {fs av rest : List Value} {Q' : tm_O → tm_Hp → Prop} (hd : decode (tm_cc M) pc = .ok (.invokevirtual i, 3)) (hl : tm_lk M N i) (hN : tm_ok N) (hi : Cond.instanceMethod (tm_y N) ∈ tm_ws) (hse : Cond.selects C (tm_y N) (tm_y N) ∈ tm_ws)
    (hci : tm_cl[ci]? = some (C, Tb, Nf)) (hn : (parseMethodDescriptor (tm_y N).desc).map (fun d => d.parameters.length) = some av.length) (ho : h a = tm_o ci fs)
    (hr : (rest.map fun v => v.category).sum ≤ 8) (hD : d' + 1 ≤ d) (hu : u + u' ≤ u0) (hC : tm_C N d' u' (.ref a :: av) h Q')
    (k1 : ∀ v h', Q' (.inl v) h' → tm_T M d u0 Q (u + u') (pc + 3) L (v.toList ++ rest) h') (k2 : ∀ k h', Q' (.inr k) h' → tm_H M d u0 Q (u + u') pc L k h') : tm_T M d u0 Q u pc L (av.reverse ++ .ref a :: rest) h := by
  intro p l e s m args below meth c H locs ls g D h1 h2 h3 h4 h5 h6 h7 h8 T hT X
  have hst : (F0 m pc ls ((av.reverse ++ .ref a :: rest).map (tm_v g.1))).stack = (av.map (tm_v g.1)).reverse ++ .ref (g.1 a) :: rest.map (tm_v g.1) := by
    show (av.reverse ++ .ref a :: rest).map (tm_v g.1) = _
    rw [List.map_append, List.map_reverse]
    rfl
  have haK : a < tm_K := tm_R.in h5 (by rw [ho]; exact tm_o_nd (List.getElem?_eq_some_iff.mp hci).1) (fun n f => by rw [ho]; exact fun q => nomatch q)
  have he : (tm_W g h)[a]? = some (g.1 a, .inr (ci, fs.map (tm_v g.1))) := by rw [tm_W_get g h haK, ho]; rfl
  obtain ⟨cellB, hcB, hobj, hcls⟩ := va_recv h3.1 h5.1 hci he
  obtain ⟨mk, methM, hnamed, hmethM, hstM, habM⟩ := Cond.instanceMethod_spec (h2.2.2.2.2.1 _ hi)
  obtain ⟨m9, meth9, cM, hn9, hm9, -, -, hsigM⟩ := tm_cd_spec (h2.2.2.2.2.1 _ hN.1)
  cases hnamed.symm.trans hn9
  cases hmethM.symm.trans hm9
  obtain ⟨c2, r2, m2, q1, q2, q3, q4, kP, hkP, hkPi⟩ := Cond.selects_spec (h2.2.2.2.2.1 _ hse)
  cases hcls.symm.trans q1
  cases (State.methodFound?_of_named hnamed ⟨hN.2.2.1, hN.2.2.2.1⟩).symm.trans q2
  cases hnamed.symm.trans q3
  have hselP : selectMethod e.platform s.vm cellB.cls mk = .method mk := by rw [Launch.admits_selectMethod X.admits]; exact q4
  have hlen : (av.map (tm_v g.1)).length = methM.sig.parameters.length := by
    rw [hsigM] at hn
    rw [List.length_map]
    exact (Option.some.inj hn).symm
  have hdg : decode c.code pc = .ok (.invokevirtual i, 3) := by rw [h2.2.1]; exact hd
  rcases hl with hl | ⟨host, hl⟩
  · obtain ⟨vm₁, X₁, hstep⟩ := X.invokevirtual h2.1 h2.2.2.2.1 (h2.2.2.2.2.1 _ hl) hnamed hmethM hstM hkP hkPi ⟨hN.2.2.1, hN.2.2.2.1⟩ (a := g.1 a) (cell := cellB) (by rw [hT]; exact hcB)
      (fun z h => by rw [h] at hobj; cases hobj) hselP hmethM habM hkP hkPi (g := F0 m pc ls ((av.reverse ++ .ref a :: rest).map (tm_v g.1))) rfl (argsL := av.map (tm_v g.1)) (rest := rest.map (tm_v g.1)) hlen hst hdg
    obtain ⟨t, a1, a2⟩ := tm_inv hN hr hD hu hC k1 k2 h1 h2 h3 h4 h5 h6 h7 hT X₁ hdg hnamed
    exact ⟨t, hstep _ fun acts => by rw [doInvoke_state]; exact a1, a2⟩
  · obtain ⟨vm₁, X₁, hstep⟩ := X.invokevirtualNest h2.1 h2.2.2.2.1 (h2.2.2.2.2.1 _ hl) hnamed hmethM hstM hkP hkPi ⟨hN.2.2.1, hN.2.2.2.1⟩ (a := g.1 a) (cell := cellB) (by rw [hT]; exact hcB)
      (fun z h => by rw [h] at hobj; cases hobj) hselP hmethM habM hkP hkPi (g := F0 m pc ls ((av.reverse ++ .ref a :: rest).map (tm_v g.1))) rfl (argsL := av.map (tm_v g.1)) (rest := rest.map (tm_v g.1)) hlen hst hdg
    obtain ⟨t, a1, a2⟩ := tm_inv hN hr hD hu hC k1 k2 h1 h2 h3 h4 h5 h6 h7 hT X₁ hdg hnamed
    exact ⟨t, hstep _ fun acts => by rw [doInvoke_state]; exact a1, a2⟩
end TMJ
section TMK
/-- nothing that was there has changed, where no place is named -/
theorem tm_same {s U : State} {k n : Nat} (h : s.sameButNew ({ U with vm := s.vm } : State) [] k n) : s.heap.size ≤ U.heap.size ∧ ∀ q : Nat, q < s.heap.size → U.heap[q]? = s.heap[q]? := by
  obtain ⟨-, h2, -, -, -, h6⟩ := h
  refine ⟨h2, fun q hq => ?_⟩
  have h0 := Array.getElem?_eq_getElem hq
  obtain ⟨c9, e1, e2, e3, e4⟩ := h6 q _ h0
  have hs : c9.slots = (s.heap[q]).slots := Array.ext_getElem? fun i => e4 i (fun hm => nomatch hm)
  rw [hs] at e2
  have e5 : U.heap[q]? = some c9 := e1
  rw [e5, h0, e2]
/-- the frame, as if it were entered anew in the heap of now -/
theorem tm_anew {p : Program} {l : Launch} {e : Env} {R R' : Room} {s : State} {m : MethodId} {args : Array Value} {below : List Frame} {meth : Method} {c : Code} {T : State} {locs : List Loc} {cells slots : Nat} (X : Stand p l e R s m args below meth c T locs cells slots)
    (hf : R'.frames ≤ R.frames) (hl : R'.locals ≤ R.locals) (hc : cells + R'.cells ≤ R.cells) (hs : slots + R'.slots ≤ R.slots) : Stand p l e R' ((T.setVm s.vm).setFrames (.invoking m args :: below)) m args below meth c T [] 0 0 := by
  have htop : (T.setVm s.vm).topJava?.isSome := X.here.top
  have hF : ((T.setVm s.vm).setFrames (.invoking m args :: below)).frames = .invoking m args :: below := State.frames_setFrames _ (State.cur_lt_of_top htop)
  have hdrop : T.heap.toList.drop T.heap.size = [] := List.drop_eq_nil_of_le (Nat.le_of_eq Array.length_toList)
  have hU : ((T.setVm s.vm).setFrames (.invoking m args :: below)).localsInUse = s.localsInUse := by
    rw [State.localsInUse_invoking hF (meth := meth) (c := c) X.method X.code, State.localsInUse_invoking X.frames X.method X.code]
  have hr : ((T.setVm s.vm).setFrames (.invoking m args :: below)).hasRoom e.platform R' = true := by
    have h := X.room
    have q1 := X.heapSize
    have q2 := X.used
    have hlim : e.platform.stackLimits ((T.setVm s.vm).setFrames (.invoking m args :: below)).me = e.platform.stackLimits s.me := by
      rw [State.stackLimits_setFrames]; exact X.limits
    have hby : ((T.setVm s.vm).setFrames (.invoking m args :: below)).me.stackBytes = s.me.stackBytes := by
      rw [State.stackBytes_setFrames]; exact X.bytes
    simp only [State.hasRoom, Bool.and_eq_true, decide_eq_true_eq] at h ⊢
    obtain ⟨⟨⟨⟨a1, a2, a3, a4, a5, a6⟩, a7⟩, a8⟩, a9⟩ := h
    rw [X.frames, List.length_cons] at a2 a3
    rw [hF, hU, hlim, hby, List.length_cons]
    refine ⟨⟨⟨⟨by omega, by omega, by omega, by omega, by omega, a6⟩, ?_⟩, ?_⟩, X.book⟩
    · show T.heap.size + R'.cells ≤ e.platform.maxCells
      omega
    · show T.slotsUsed + R'.slots ≤ e.platform.maxSlots
      omega
  refine ⟨X.admits, X.cas, X.clock, hF, hr, X.hears, X.method, X.code, X.here, X.tail, X.warmed, ?_, ?_, ?_⟩
  · rw [State.stackLimits_setFrames]; rfl
  · rw [State.stackBytes_setFrames]; rfl
  · refine ⟨?_, Nat.le_refl _, Nat.le_refl _, ?_, ?_, fun a c9 h9 => ⟨c9, h9, rfl, rfl, fun _ _ => rfl⟩⟩
    · obtain ⟨g0, hg0⟩ := Option.isSome_iff_exists.mp htop
      obtain ⟨r, hr⟩ := State.topJava?_eq_some.mp hg0
      obtain ⟨t, ht, -⟩ := State.frames_cons hr
      show T.setVm s.vm = { ((T.setVm s.vm).setFrames (.invoking m args :: below)).setFrames (T.setVm s.vm).frames with heap := T.heap, slotsUsed := T.slotsUsed }
      rw [State.setFrames_setFrames, State.setFrames_self ht]
      rfl
    · show T.slotsUsed = T.slotsUsed + ((T.heap.toList.drop T.heap.size).map (·.slots.size)).sum
      rw [hdrop]; rfl
    · show ((T.heap.toList.drop T.heap.size).map (·.slots.size)).sum ≤ 0
      rw [hdrop]; exact Nat.le_refl _
variable {M : tm_M} {d u0 u : Nat} {Q : tm_O → tm_Hp → Prop} {pc : Nat} {L : List (Option Value)} {st : List Value} {h : tm_Hp}
set_option maxHeartbeats 1000000 in
/-- 'throw new X("text")': new; dup; ldc; invokespecial; athrow, no handler there -/
theorem tm_throw {ik is ic k : Nat} {text : String} (names : List String) (d0 : decode (tm_cc M) pc = .ok (.new ik, 3)) (d3 : decode (tm_cc M) (pc + 3) = .ok (.dup, 1)) (d4 : decode (tm_cc M) (pc + 4) = .ok (.ldc is, 2)) (d6 : decode (tm_cc M) (pc + 6) = .ok (.invokespecial ic, 3)) (d9 : decode (tm_cc M) (pc + 9) = .ok (.athrow, 1))
    (hout : (tableOf (tm_hh M)).all (fun x => !covers x (pc + 9)) = true) (hk : Cond.classLink (tm_own M) ik (tm_ex k) ∈ tm_ws) (hini : Cond.initialized (tm_ex k) ∈ tm_ws) (hs : (tm_own M, is, text) ∈ tm_strs)
    (hcls : Bundle.fit (tm_ex k) = true) (hnames : ∀ n ∈ names, Bundle.fit n = true) (hat : ∀ w ∈ Bundle.ownAtoms (tm_own M) ic (tm_ex k) names, w ∈ tm_ws ∨ ∃ q ∈ tm_sts, w = .isRef (.static q.1 q.2.1 q.2.2) ∨ w = .laysStatic q.1 q.2.1 q.2.2)
    (hd : names.length + 3 < d) (hu : u + 1 ≤ u0) (hq : Q (.inr k) h) : tm_T M d u0 Q u pc L [] h := by
  intro p l e s m args below meth c H locs ls g D h1 h2 h3 h4 h5 h6 h7 h8 T hT X
  have htr : e.platform.stackTraces = false := (show e.platform.stackTraces = l.stackTraces by rw [X.admits.platform]).trans h1
  have Y := tm_anew X (R' := { frames := d, locals := 64 * d, cells := 1, slots := 6 }) (Nat.le_refl _) (Nat.le_refl _) (by show u + 1 ≤ u0; exact hu) (by show 6 * u + 6 ≤ 6 * u0; omega)
  obtain ⟨s', hs'⟩ : ∃ z, z = (T.setVm s.vm).setFrames (.invoking m args :: below) := ⟨_, rfl⟩
  rw [← hs'] at Y
  have hvm : s'.vm = s.vm := by rw [hs']; rfl
  have hhp : s'.heap = H := by rw [hs']; exact hT
  have hW0 : s.WarmedH s'.vm := by rw [hvm]; exact State.WarmedH.refl s
  have hw : ∀ w ∈ tm_ws, w.before args s' = true := tm_ws_at hW0 h2.2.2.2.2.1
  obtain ⟨x1, x2, x3⟩ := tm_X.at hW0 h4 (by rw [hhp]; exact h6) h3.2.2
  obtain ⟨sa, hsa⟩ := x2 _ hs
  have hatoms : ∀ w ∈ Bundle.ownAtoms (tm_own M) ic (tm_ex k) names, w.before args s' = true := by
    intro w hw'
    rcases hat w hw' with q | ⟨q, hq1, e9 | e9⟩
    · exact hw w q
    · rw [e9]; exact (x1 q hq1).isRef
    · rw [e9]; exact (x1 q hq1).lays
  have hown : s'.vm.findClass (tm_own M) = some m.cls := by rw [hvm]; exact h2.2.2.2.1
  have hins : (Cond.instantiable (tm_ex k) 6).before args s' = true := hatoms _ (by simp [Bundle.ownAtoms])
  have hcc := h2.2.1
  obtain ⟨vm₁, cX, kX, hfX, hkX, -, -, X₁, st1⟩ := Y.newCold h2.1 (own := tm_own M) (C := tm_ex k) (index := ik) (n := 6) hown (hw _ hk) hins (hw _ hini)
    (g := F0 m pc ls []) rfl (by rw [hcc]; exact d0) (Nat.le_refl _) (Nat.le_refl _)
  generalize hT1 : (T.setVm vm₁).pushCell { cls := cX, slots := kX.instanceTypes.map defaultValue, vm := .none } = T1 at X₁ st1
  have hcat : (Value.ref T.heap.size).category = 1 := rfl
  have hcellA : T1.heap[T.heap.size]? = some (freshCell cX kX) := by rw [← hT1]; exact State.heap_pushCell_size _ _
  have d3' : decode c.code (pc + 3) = .ok (.dup, 1) := by rw [hcc]; exact d3
  have d4' : decode c.code (pc + 4) = .ok (.ldc is, 2) := by rw [hcc]; exact d4
  have hsz : ls.size = c.maxLocals := h7.1.trans h2.2.2.1.symm
  have ho : ∀ x ∈ c.exceptionTable.toList, covers x (pc + 6 + 3) = false := by
    intro x hx
    rw [h2.2.2.2.2.2.2.2] at hx
    have hc9 := List.all_eq_true.mp hout x hx
    exact tm_cov hc9
  obtain ⟨U, hsteps, hrun, hend, hW, hsame, ce, hce, hO⟩ := X₁.ctorThrowS h2.1 htr (own := tm_own M) (cls := tm_ex k) (names := names) (ic := ic) hown hcls hnames hatoms (fun x hx => nomatch hx) hfX hkX hcellA (by rw [hhp, hT]; exact Nat.le_refl _) (msg := .ref sa) rfl
    (g := { method := m, pc := pc + 6, locals := ls, stack := .ref sa :: .ref T.heap.size :: .ref T.heap.size :: [], locked := none }) rfl hsz rfl rfl (rest := []) rfl
    (by rw [hcc]; exact d6) (by rw [hcc]; exact d9) ho hd (by
      show 2 * 0 + _ + (13 * (names.length + 1) + 42) ≤ 64 * d
      simp only [List.map_cons, List.map_nil, List.sum_cons, List.sum_nil, hcat]
      omega) h2.2.2.2.2.2.2.1
  obtain ⟨f1, f2⟩ := tm_same hsame
  rw [hhp] at f1 f2
  have hWs : s.WarmedH U.vm := State.WarmedH.trans hW0 hW
  have hcl : s.vm.findClass (tm_ex k) = some ce.cls := by
    have h9 := hO.cls
    rw [hvm] at h9
    exact h9
  have hall : s.sameButNew ({ U with vm := s.vm } : State) locs u0 (6 * u0) := by
    subst hs'
    obtain ⟨e1, e2⟩ := hsame
    rw [State.setFrames_setFrames] at e1
    have g2 : (T.setVm s.vm).sameButNew ({ U with vm := s.vm } : State) [] (0 + 1) (0 + 6) := ⟨e1, e2⟩
    have g3 := X.same.trans g2
    rw [List.append_nil] at g3
    exact g3.mono (by omega) (by omega)
  obtain ⟨h0, hR0⟩ := h4
  have hSU : va_S (tm_A g s.heap.size) s.heap U.heap locs := by
    refine ⟨Nat.le_trans h6.1 f1, fun q hq hn => ?_, h6.2.2⟩
    rw [f2 q (Nat.lt_of_lt_of_le hq h6.1), h6.2.1 q hq hn]
  have hRU : tm_R g D h s U.heap := by
    refine tm_R.kept h3.2.1 (fun _ _ => rfl) h5 h6 hSU hR0.ltS ?_
    exact h5.1.kept (fun k q hq => f2 q.1 (h5.1 k q hq).lt)
  refine ⟨U, ?_, .threw T.heap.size, hrun, hend, .inr k, h, locs, hq, ⟨T.heap.size, ce, rfl, hce, hO.vm, hcl⟩, hRU, ⟨hSU.1, hSU.2.1⟩, hWs, hall, h6.2.2⟩
  refine st1 _ ?_
  show Steps p.tables e below (T1.setTop { method := m, pc := pc + 3, locals := ls, stack := .ref T.heap.size :: [], locked := none }) _
  jvm_step X₁.here [X₁.here.top, h2.1, d3', Value.category]
  exact X₁.ldcString h2.1 (own := tm_own M) (text := text) (index := is) (a := sa) hown hsa.1 hsa.2
    (g := { method := m, pc := pc + 4, locals := ls, stack := .ref T.heap.size :: .ref T.heap.size :: [], locked := none }) rfl d4' _ hsteps
end TMK
end
section
section TML
/-- a row of the table that names a class not resolved yet, or resolved -/
theorem tm_go_link {E : CtlPost} {e : Env} {d : Bool} {acts : List Action} {s : State} {f : JFrame} {a : Addr} {Q : Handler → Pre} {x : ExceptionTableEntry} {t : List ExceptionTableEntry} {c : ClassId} {cell : Cell} (hx : covers x f.pc = true) (h0 : x.catchType ≠ 0)
    (hl : s.vm.ClassLinks e.platform f.method.cls x.catchType c) (hcell : s.heap[a]? = some cell) (hobj : ∀ k, cell.vm ≠ .statics k) (hk : ∃ k, s.vm.classes[cell.cls]? = some k) (hc : ∃ k, s.vm.classes[c]? = some k) :
    wp (findHandler.go f a (x :: t)) Q E e d acts s ↔ if s.vm.assignable cell.cls c = true then Q (.found x.handlerPc) d acts (s.setVm (s.vm.noted f.method.cls x.catchType (.cls c))) else wp (findHandler.go f a t) Q E e d acts (s.setVm (s.vm.noted f.method.cls x.catchType (.cls c))) := by
  simp only [covers] at hx
  obtain ⟨ha, ht⟩ := (resolveClass_links e.toSetting hl).op (op := VmOp.resolveClass f.method.cls x.catchType) rfl
  have hal : s.vm.Alike (s.vm.noted f.method.cls x.catchType (.cls c)) := (Vm.Alike.refl s.vm).noted _ _ _
  obtain ⟨k1, hk1⟩ := hk
  obtain ⟨k2, hk2⟩ := hc
  obtain ⟨k1', hk1', -⟩ := hal.2.2 _ _ hk1
  obtain ⟨k2', hk2', -⟩ := hal.2.2 _ _ hk2
  have has : (s.vm.noted f.method.cls x.catchType (.cls c)).assignable cell.cls c = s.vm.assignable cell.cls c := hal.assignable
  cases hfit : s.vm.assignable cell.cls c <;> rw [hfit] at has <;>
    simp [findHandler.go, hx, h0, ha, ht, hcell, hobj, hk1', hk2', has, VmOp.dirties, VmOp.acts]
/-- which handler takes exception number k at pc -/
def tm_ct (own : String) (pc k : Nat) : List (Nat × Nat × Nat × Nat) → Nat → Prop
  | [], _ => False
  | q :: t, r => (¬ (q.1 ≤ pc ∧ pc < q.2.1) ∧ tm_ct own pc k t r) ∨ ((q.1 ≤ pc ∧ pc < q.2.1) ∧ q.2.2.2 ≠ 0 ∧ ∃ nm, Cond.classLink own q.2.2.2 nm ∈ tm_ws ∧ ((Cond.castable (tm_ex k) nm ∈ tm_ws ∧ r = q.2.2.1) ∨ ((tm_ex k, nm) ∈ tm_ncs ∧ tm_ct own pc k t r)))
theorem tm_find {e : Env} {s : State} {args : Array Value} {f : JFrame} {a : Addr} {own : String} {k : Nat} {cell : Cell} (hpl : e.platform.magicAccessors = ({} : Platform).magicAccessors) (hown : s.vm.findClass own = some f.method.cls) (hw : ∀ w ∈ tm_ws, w.before args s = true) (hN : ∀ q ∈ tm_ncs, va_Nc q.1 q.2 s)
    (hcl : s.vm.findClass (tm_ex k) = some cell.cls) (hobj : ∀ k, cell.vm ≠ .statics k) : ∀ (hh : List (Nat × Nat × Nat × Nat)) (r : Nat), tm_ct own f.pc k hh r → ∀ S : State, s.WarmedH S.vm → S.heap[a]? = some cell →
      ∃ vm', s.WarmedH vm' ∧ ∀ (Q : Handler → Pre) (E : CtlPost) (d : Bool) (acts : List Action), wp (findHandler.go f a (tableOf hh)) Q E e d acts S ↔ Q (.found r) d acts (S.setVm vm')
  | [], _, h, _, _, _ => h.elim
  | q :: t, r, h, S, hW, hcell => by
    obtain ⟨k0, hk0, -⟩ := Vm.findClass_spec hcl
    obtain ⟨k0', hk0', -⟩ := hW.alike.2.2 _ _ hk0
    rcases h with ⟨hn, h⟩ | ⟨hc, h0, nm, hl, h⟩
    · obtain ⟨vm', h1, h2⟩ := tm_find hpl hown hw hN hcl hobj t r h S hW hcell
      refine ⟨vm', h1, fun Q E d acts => ?_⟩
      show wp (findHandler.go f a (⟨q.1, q.2.1, q.2.2.1, q.2.2.2⟩ :: tableOf t)) Q E e d acts S ↔ _
      rw [W.findHandler_go_skip (by simp only [covers]; simpa using hn)]
      exact h2 Q E d acts
    · have hcov : covers (⟨q.1, q.2.1, q.2.2.1, q.2.2.2⟩ : ExceptionTableEntry) f.pc = true := by simp only [covers]; simpa using hc
      obtain ⟨c', hc', hcls⟩ := Cond.classLink_spec hown (hw _ hl) e.platform hpl
      obtain ⟨dk, _, _, kt, hd, _, _, _, _, hkt, _, hopen⟩ := hcls.here
      obtain ⟨kt', hkt', -⟩ := hW.alike.2.2 _ _ hkt
      have hW1 := hW.noted hd hopen (State.rightAt_cls hcls)
      rcases h with ⟨hcast, rfl⟩ | ⟨hno, h⟩
      · obtain ⟨c3, c4, e3, e4, hasg⟩ := Cond.castable_spec (hw _ hcast)
        cases Option.some.inj (e3.symm.trans hcl)
        cases Option.some.inj (e4.symm.trans hc')
        refine ⟨_, hW1, fun Q E d acts => ?_⟩
        show wp (findHandler.go f a (⟨q.1, q.2.1, q.2.2.1, q.2.2.2⟩ :: tableOf t)) Q E e d acts S ↔ _
        rw [tm_go_link hcov h0 (hW.classLinks hcls) hcell hobj ⟨k0', hk0'⟩ ⟨kt', hkt'⟩, if_pos (by rw [hW.alike.assignable]; exact hasg)]
      · obtain ⟨c3, c4, e3, e4, hasg⟩ := hN _ hno
        cases Option.some.inj (e3.symm.trans hcl)
        cases Option.some.inj (e4.symm.trans hc')
        obtain ⟨vm', h1, h2⟩ := tm_find hpl hown hw hN hcl hobj t r h (S.setVm (S.vm.noted f.method.cls q.2.2.2 (.cls c'))) hW1 hcell
        refine ⟨vm', h1, fun Q E d acts => ?_⟩
        show wp (findHandler.go f a (⟨q.1, q.2.1, q.2.2.1, q.2.2.2⟩ :: tableOf t)) Q E e d acts S ↔ _
        rw [tm_go_link hcov h0 (hW.classLinks hcls) hcell hobj ⟨k0', hk0'⟩ ⟨kt', hkt'⟩, if_neg (by rw [hW.alike.assignable, hasg]; decide)]
        exact h2 Q E d acts
/-- one step: into the handler -/
theorem tm_caught {tb : Tables} {e : Env} {T target : State} {g : JFrame} {c : Code} {below : List Frame} {a : Addr} {pc : Nat} {vm' : Vm} (h : At T g.method c below)
    (hfind : ∀ (Q : Handler → Pre) (E : CtlPost) (d : Bool) (acts : List Action), wp (findHandler g a) Q E e d acts ((T.setTop g).pushFrame (.throwing a)) ↔ Q (.found pc) d acts (((T.setTop g).pushFrame (.throwing a)).setVm vm'))
    (hrest : Steps tb e below ((T.setVm vm').setTop { g with pc := pc, stack := [.ref a] }) target) : Steps tb e below ((T.setTop g).pushFrame (.throwing a)) target := by
  obtain ⟨hgo, hw⟩ := h.throwing a
  refine Steps.head hgo hw ?_
  have hs : (stepThrowing e ((T.setTop g).pushFrame (.throwing a)) a (.java g :: T.frames.tail)).1 = (((T.setTop g).pushFrame (.throwing a)).setVm vm').setFrames (.java { g with pc := pc, stack := [.ref a] } :: T.frames.tail) := by
    simp only [stepThrowing, searchFrame, vmDo]
    generalize hr : Sem.go _ e false [] ((T.setTop g).pushFrame (.throwing a)) = res
    obtain ⟨as, rfl, ha⟩ := Sem.eq_ok_of hr (a := Handler.found pc) (s' := ((T.setTop g).pushFrame (.throwing a)).setVm vm') (acts' := []) (by simp [hfind _ _ _ _])
    rfl
  rw [stepThread_throwing (frames_entered h.top _), hs]
  obtain ⟨g₀, hg⟩ := Option.isSome_iff_exists.mp h.top
  obtain ⟨r, hr⟩ := State.topJava?_eq_some.mp hg
  have e1 : ((T.setTop g).pushFrame (.throwing a)).setVm vm' = (((T.setVm vm').setTop g).pushFrame (.throwing a)) := rfl
  have hr' : (T.setVm vm').frames = .java g₀ :: r := hr
  rw [e1, State.pushFrame, State.setFrames_setFrames, State.setTop_of_frames _ hr', State.setFrames_setFrames]
  rw [State.setTop_of_frames _ hr'] at hrest
  rw [hr]
  exact hrest
variable {M : tm_M} {d u0 u : Nat} {Q : tm_O → tm_Hp → Prop} {pc : Nat} {L : List (Option Value)} {st : List Value} {h : tm_Hp}
/-- caught: the exception is stored, a constant answered -/
theorem tm_H_ret {k hp j : Nat} {n : Int} {v : Int32} (hc : tm_ct (tm_own M) pc k (tm_hh M) hp) (hj : j < tm_nL M) (hd : decode (tm_cc M) hp = .ok (.astore j, 2) ∧ decode (tm_cc M) (hp + 2) = .ok (.iconst n, 1) ∧ decode (tm_cc M) (hp + 3) = .ok (.ireturn, 1) ∨ ∃ jj : Fin 4, jj.val = j ∧ decode (tm_cc M) hp = .ok (.astore_n jj, 1) ∧ decode (tm_cc M) (hp + 1) = .ok (.iconst n, 1) ∧ decode (tm_cc M) (hp + 2) = .ok (.ireturn, 1))
    (hv : Int32.ofInt n = v) (ht : tm_rt M = some .int) (hq : Q (.inl (some (.int v))) h) : tm_H M d u0 Q u pc L k h := by
  intro p l e s m args below meth c H locs ls g D q ce rest h1 h2 h3 h4 h5 h6 h7 h8 h9 h10 h11 T hT X
  have hpl : e.platform.magicAccessors = ({} : Platform).magicAccessors := by rw [X.admits.platform]
  have hobj : ∀ k, ce.vm ≠ .statics k := by intro k9 h9; rw [h10] at h9; cases h9
  obtain ⟨vm', hW', hf⟩ := tm_find (e := e) (f := F0 m pc ls rest) (a := q) (cell := ce) hpl h2.2.2.2.1 h2.2.2.2.2.1 h3.2.2.2.2 h11 hobj (tm_hh M) hp hc ((T.setTop (F0 m pc ls rest)).pushFrame (.throwing q)) X.warmed (by show T.heap[q]? = some ce; rw [hT]; exact h9)
  have X' := X.noted hW'
  have hw : W p l e (tm_rm d u0) s m args below meth c H locs u (6 * u) (tm_Z below g D Q u0 s) (F0 m hp ls [.ref q]) := by
    have fin : ∀ (ls' : Array Slot) (pc' : Nat), decode (tm_cc M) pc' = .ok (.iconst n, 1) → decode (tm_cc M) (pc' + 1) = .ok (.ireturn, 1) → W p l e (tm_rm d u0) s m args below meth c H locs u (6 * u) (tm_Z below g D Q u0 s) (F0 m pc' ls' []) := by
      intro ls' pc' e1 e2
      refine lv_iconst h2.1 h2.2.1 e1 hv ?_
      refine tm_ret (v := some (.int v)) rfl hq h5 h6 h8 ?_
      exact W.iret h2.1 h2.2.1 (h2.2.2.2.2.2.1.trans ht) (fun t ht _ => ⟨rfl, ht⟩) h6.2.2 e2 (hlocks := h2.2.2.2.2.2.2.1)
    rcases hd with ⟨e1, e2, e3⟩ | ⟨jj, rfl, e1, e2, e3⟩
    · exact lv_astore h2.1 h2.2.1 e1 h7 hj rfl (fun ls' _ => fin ls' _ e2 e3)
    · exact lv_astore_n h2.1 h2.2.1 e1 rfl h7 hj rfl (fun ls' _ => fin ls' _ e2 e3)
  obtain ⟨t, a1, a2⟩ := hw (T.setVm vm') hT X'
  refine ⟨t, ?_, a2⟩
  refine tm_caught (g := F0 m pc ls rest) X.here (fun Q E d acts => ?_) a1
  have hm : ((T.setTop (F0 m pc ls rest)).pushFrame (.throwing q)).vm.method? m = some meth := X.method'
  rw [W.findHandler_eq (meth := meth) (code := c) hm X.code, h2.2.2.2.2.2.2.2]
  exact hf Q E d acts
end TML
section TMM
variable {M : tm_M} {d u0 u : Nat} {Q : tm_O → tm_Hp → Prop} {pc : Nat} {L : List (Option Value)} {st : List Value} {h : tm_Hp}
/-- System.arraycopy, between two arrays of ints of the world -/
theorem tm_copy {i a b na nb : Nat} {f f' : Nat → Int32} {sp dp n : Int32} {r : List Value} (hd : decode (tm_cc M) pc = .ok (.invokestatic i, 3)) (hl : Cond.methodLink (tm_own M) i arraycopyName ∈ tm_ws) (hnat : Cond.native arraycopyName ∈ tm_ws) (hst : Cond.static arraycopyName ∈ tm_ws) (hini : Cond.initialized "java/lang/System" ∈ tm_ws)
    (ha : h a = tm_i na f) (hb : h b = tm_i nb f') (haK : a < tm_K) (hbK : b < tm_K) (h1 : ¬ sp < 0) (h2 : ¬ dp < 0) (h3 : ¬ n < 0) (h4 : sp.toNatClampNeg + n.toNatClampNeg ≤ na) (h5 : dp.toNatClampNeg + n.toNatClampNeg ≤ nb) (hr : (r.map fun v => v.category).sum ≤ 8) (hdd : 1 ≤ d)
    (hk : tm_T M d u0 Q u (pc + 3) L r (tm_up h b (tm_i nb (va_cpy f f' sp.toNatClampNeg dp.toNatClampNeg n.toNatClampNeg)))) : tm_T M d u0 Q u pc L (.int n :: .int dp :: .ref b :: .int sp :: .ref a :: r) h := by
  intro p l e s m args below meth c H locs ls g D w1 w2 w3 w4 w5 w6 w7 w8
  have he : (tm_W g h)[a]? = some (g.1 a, .inl (g.2.1, na, .inl f)) := by rw [tm_W_get g h haK, ha]; rfl
  have he' : (tm_W g h)[b]? = some (g.1 b, .inl (g.2.1, nb, .inl f')) := by rw [tm_W_get g h hbK, hb]; rfl
  obtain ⟨h0, hR0⟩ := w4
  have hcat : ((r.map (tm_v g.1)).map fun v => v.category).sum = (r.map fun v => v.category).sum := by
    rw [List.map_map]
    congr 1
    apply List.map_congr_left
    intro v _
    exact tm_v_cat g.1 v
  refine va_copyi (D := D) (A := tm_A g s.heap.size) w2.1 w2.2.1 (w2.2.2.1.trans w7.1.symm) w2.2.2.2.1 (w2.2.2.2.2.1 _ hl) (w2.2.2.2.2.1 _ hnat) (w2.2.2.2.2.1 _ hst) (w2.2.2.2.2.1 _ hini) w3.1 w5.1 (w3.2.1.va h _) w6 a b 0 0 he he' (ty := .int) rfl rfl rfl h1 h2 h3 h4 h5 (fun _ _ => rfl) (by show 1 ≤ d; exact hdd) (by
    rw [hcat]
    have hn : nativeFrameWords "java/lang/System" "arraycopy" 5 + 11 ≤ 48 := by decide
    show _ ≤ 64 * d
    omega) hd (fun H1 locs1 hP1 _ hS1 => ?_)
  have e1 : (tm_W g h).set b (g.1 b, .inl (g.2.1, nb, .inl (va_cpy f f' sp.toNatClampNeg dp.toNatClampNeg n.toNatClampNeg))) = tm_W g (tm_up h b (tm_i nb (va_cpy f f' sp.toNatClampNeg dp.toNatClampNeg n.toNatClampNeg))) := tm_W_set g h hbK (tm_i nb (va_cpy f f' sp.toNatClampNeg dp.toNatClampNeg n.toNatClampNeg))
  rw [e1] at hP1
  exact hk p l e s m args below meth c H1 locs1 ls g D w1 w2 w3 ⟨h0, hR0⟩ (tm_R.kept w3.2.1 (fun k hk => tm_up_n (by omega)) w5 w6 hS1 hR0.ltS hP1) hS1 w7 w8
/-- a switch -/
theorem tm_tsw {dflt lo hi : Int} {offs : Array Int} {len : Nat} {x : Int32} {r : List Value} (hd : decode (tm_cc M) pc = .ok (.tableswitch dflt lo hi offs, len)) (hp : 0 ≤ (pc : Int) + dflt)
    (hin : ∀ off, ¬ x.toInt < lo → ¬ hi < x.toInt → offs[(x.toInt - lo).toNat]? = some off → 0 ≤ (pc : Int) + off ∧ tm_T M d u0 Q u ((pc : Int) + off).toNat L r h) (hex : ¬ x.toInt < lo → ¬ hi < x.toInt → ∃ off, offs[(x.toInt - lo).toNat]? = some off)
    (hout : x.toInt < lo ∨ hi < x.toInt → tm_T M d u0 Q u ((pc : Int) + dflt).toNat L r h) : tm_T M d u0 Q u pc L (.int x :: r) h := by
  by_cases h1 : x.toInt < lo ∨ hi < x.toInt
  · exact tm_pl (hout h1) (fun p l e R s m args below meth c H locs cells slots Z ls g hF hl kk => lv_tableOut hF.1 hF.2.1 hd h1 (tm_tgt hp) (kk ls hl))
  · have h2 : ¬ x.toInt < lo := fun q => h1 (Or.inl q)
    have h3 : ¬ hi < x.toInt := fun q => h1 (Or.inr q)
    obtain ⟨off, ho⟩ := hex h2 h3
    obtain ⟨h4, h5⟩ := hin off h2 h3 ho
    exact tm_pl h5 (fun p l e R s m args below meth c H locs cells slots Z ls g hF hl kk => lv_tableIn hF.1 hF.2.1 hd h2 h3 ho (tm_tgt h4) (kk ls hl))
end TMM
end
section
section TMN
variable {M : tm_M} {d u0 u : Nat} {Q : tm_O → tm_Hp → Prop} {S : List Nat} {n pc q : Nat} {L : List (Option Value)} {st : List Value} {h : tm_Hp}
theorem tm_r_iconst {k : Int} {v : Int32} (hd : decode (tm_cc M) pc = .ok (.iconst k, 1)) (hq : pc + 1 = q) (hv : Int32.ofInt k = v) : tm_s M d u0 Q u S n pc L st h = tm_w M d u0 Q u S n q L (.int v :: st) h := by
  subst hq; subst hv; exact (tm_s_d hd).trans (tm_and rfl)
theorem tm_r_lconst {k : Fin 2} {v : Int64} (hd : decode (tm_cc M) pc = .ok (.lconst k, 1)) (hq : pc + 1 = q) (hv : Int64.ofNat k.val = v) : tm_s M d u0 Q u S n pc L st h = tm_w M d u0 Q u S n q L (.long v :: st) h := by
  subst hq; subst hv; exact (tm_s_d hd).trans (tm_and rfl)
theorem tm_r_bipush {k : Int} {v : Int32} (hd : decode (tm_cc M) pc = .ok (.bipush k, 2)) (hq : pc + 2 = q) (hv : (Int8.ofInt k).toInt32 = v) : tm_s M d u0 Q u S n pc L st h = tm_w M d u0 Q u S n q L (.int v :: st) h := by
  subst hq; subst hv; exact (tm_s_d hd).trans (tm_and rfl)
theorem tm_r_sipush {k : Int} {v : Int32} (hd : decode (tm_cc M) pc = .ok (.sipush k, 3)) (hq : pc + 3 = q) (hv : (Int16.ofInt k).toInt32 = v) : tm_s M d u0 Q u S n pc L st h = tm_w M d u0 Q u S n q L (.int v :: st) h := by
  subst hq; subst hv; exact (tm_s_d hd).trans (tm_and rfl)
theorem tm_r_ldc {i : Nat} {v : Int32} (hd : decode (tm_cc M) pc = .ok (.ldc i, 2)) (hq : pc + 2 = q) (hv : tm_cn (tm_own M) i = some v) : tm_s M d u0 Q u S n pc L st h = tm_w M d u0 Q u S n q L (.int v :: st) h := by
  subst hq; refine (tm_s_d hd).trans ((tm_and rfl).trans ?_); rw [hv]; rfl
theorem tm_r_ldc_w {i : Nat} {v : Int32} (hd : decode (tm_cc M) pc = .ok (.ldc_w i, 3)) (hq : pc + 3 = q) (hv : tm_cn (tm_own M) i = some v) : tm_s M d u0 Q u S n pc L st h = tm_w M d u0 Q u S n q L (.int v :: st) h := by
  subst hq; refine (tm_s_d hd).trans ((tm_and rfl).trans ?_); rw [hv]; rfl
theorem tm_r_iload_n {i : Fin 4} {j : Nat} (hd : decode (tm_cc M) pc = .ok (.iload_n i, 1)) (hq : pc + 1 = q) (hi : i.val = j) : tm_s M d u0 Q u S n pc L st h = tm_gI L j (fun x => tm_w M d u0 Q u S n q L (.int x :: st) h) := by
  subst hq; subst hi; exact (tm_s_d hd).trans (tm_and rfl)
theorem tm_r_iload {j : Nat} (hd : decode (tm_cc M) pc = .ok (.iload j, 2)) (hq : pc + 2 = q)  : tm_s M d u0 Q u S n pc L st h = tm_gI L j (fun x => tm_w M d u0 Q u S n q L (.int x :: st) h) := by
  subst hq; exact (tm_s_d hd).trans (tm_and rfl)
theorem tm_r_istore_n {i : Fin 4} {j : Nat} (hd : decode (tm_cc M) pc = .ok (.istore_n i, 1)) (hq : pc + 1 = q) (hi : i.val = j) (hj : j < tm_nL M) : tm_s M d u0 Q u S n pc L st h = tm_p1 st (fun x r => tm_w M d u0 Q u S n q (L.set j (some (.int x))) r h) := by
  subst hq; subst hi; exact (tm_s_d hd).trans ((tm_and rfl).trans (tm_and hj))
theorem tm_r_istore {j : Nat} (hd : decode (tm_cc M) pc = .ok (.istore j, 2)) (hq : pc + 2 = q) (hj : j < tm_nL M) : tm_s M d u0 Q u S n pc L st h = tm_p1 st (fun x r => tm_w M d u0 Q u S n q (L.set j (some (.int x))) r h) := by
  subst hq; exact (tm_s_d hd).trans ((tm_and rfl).trans (tm_and hj))
theorem tm_r_aload_n {i : Fin 4} {j : Nat} (hd : decode (tm_cc M) pc = .ok (.aload_n i, 1)) (hq : pc + 1 = q) (hi : i.val = j) : tm_s M d u0 Q u S n pc L st h = tm_gA L j (fun x => tm_w M d u0 Q u S n q L (.ref x :: st) h) := by
  subst hq; subst hi; exact (tm_s_d hd).trans (tm_and rfl)
theorem tm_r_aload {j : Nat} (hd : decode (tm_cc M) pc = .ok (.aload j, 2)) (hq : pc + 2 = q)  : tm_s M d u0 Q u S n pc L st h = tm_gA L j (fun x => tm_w M d u0 Q u S n q L (.ref x :: st) h) := by
  subst hq; exact (tm_s_d hd).trans (tm_and rfl)
theorem tm_r_astore_n {i : Fin 4} {j : Nat} (hd : decode (tm_cc M) pc = .ok (.astore_n i, 1)) (hq : pc + 1 = q) (hi : i.val = j) (hj : j < tm_nL M) : tm_s M d u0 Q u S n pc L st h = tm_pA st (fun x r => tm_w M d u0 Q u S n q (L.set j (some (.ref x))) r h) := by
  subst hq; subst hi; exact (tm_s_d hd).trans ((tm_and rfl).trans (tm_and hj))
theorem tm_r_astore {j : Nat} (hd : decode (tm_cc M) pc = .ok (.astore j, 2)) (hq : pc + 2 = q) (hj : j < tm_nL M) : tm_s M d u0 Q u S n pc L st h = tm_pA st (fun x r => tm_w M d u0 Q u S n q (L.set j (some (.ref x))) r h) := by
  subst hq; exact (tm_s_d hd).trans ((tm_and rfl).trans (tm_and hj))
theorem tm_r_iinc {j : Nat} {k : Int} {v : Int32} (hd : decode (tm_cc M) pc = .ok (.iinc j k, 3)) (hq : pc + 3 = q) (hv : Int32.ofInt k = v) (hj : j < tm_nL M) : tm_s M d u0 Q u S n pc L st h = tm_gI L j (fun x => tm_w M d u0 Q u S n q (L.set j (some (.int (x + v)))) st h) := by
  subst hq; subst hv; exact (tm_s_d hd).trans ((tm_and rfl).trans (tm_and hj))
theorem tm_r_iadd (hd : decode (tm_cc M) pc = .ok (.iadd, 1)) (hq : pc + 1 = q)  : tm_s M d u0 Q u S n pc L st h = tm_p1 st (fun y r => tm_p1 r (fun x r => tm_w M d u0 Q u S n q L (.int (x + y) :: r) h)) := by
  subst hq; exact (tm_s_d hd).trans (tm_and rfl)
theorem tm_r_isub (hd : decode (tm_cc M) pc = .ok (.isub, 1)) (hq : pc + 1 = q)  : tm_s M d u0 Q u S n pc L st h = tm_p1 st (fun y r => tm_p1 r (fun x r => tm_w M d u0 Q u S n q L (.int (x - y) :: r) h)) := by
  subst hq; exact (tm_s_d hd).trans (tm_and rfl)
theorem tm_r_imul (hd : decode (tm_cc M) pc = .ok (.imul, 1)) (hq : pc + 1 = q)  : tm_s M d u0 Q u S n pc L st h = tm_p1 st (fun y r => tm_p1 r (fun x r => tm_w M d u0 Q u S n q L (.int (x * y) :: r) h)) := by
  subst hq; exact (tm_s_d hd).trans (tm_and rfl)
theorem tm_r_iand (hd : decode (tm_cc M) pc = .ok (.iand, 1)) (hq : pc + 1 = q)  : tm_s M d u0 Q u S n pc L st h = tm_p1 st (fun y r => tm_p1 r (fun x r => tm_w M d u0 Q u S n q L (.int (x &&& y) :: r) h)) := by
  subst hq; exact (tm_s_d hd).trans (tm_and rfl)
theorem tm_r_ior (hd : decode (tm_cc M) pc = .ok (.ior, 1)) (hq : pc + 1 = q)  : tm_s M d u0 Q u S n pc L st h = tm_p1 st (fun y r => tm_p1 r (fun x r => tm_w M d u0 Q u S n q L (.int (x ||| y) :: r) h)) := by
  subst hq; exact (tm_s_d hd).trans (tm_and rfl)
theorem tm_r_ixor (hd : decode (tm_cc M) pc = .ok (.ixor, 1)) (hq : pc + 1 = q)  : tm_s M d u0 Q u S n pc L st h = tm_p1 st (fun y r => tm_p1 r (fun x r => tm_w M d u0 Q u S n q L (.int (x ^^^ y) :: r) h)) := by
  subst hq; exact (tm_s_d hd).trans (tm_and rfl)
theorem tm_r_ishl (hd : decode (tm_cc M) pc = .ok (.ishl, 1)) (hq : pc + 1 = q)  : tm_s M d u0 Q u S n pc L st h = tm_p1 st (fun y r => tm_p1 r (fun x r => tm_w M d u0 Q u S n q L (.int (x <<< (y &&& 31)) :: r) h)) := by
  subst hq; exact (tm_s_d hd).trans (tm_and rfl)
theorem tm_r_ishr (hd : decode (tm_cc M) pc = .ok (.ishr, 1)) (hq : pc + 1 = q)  : tm_s M d u0 Q u S n pc L st h = tm_p1 st (fun y r => tm_p1 r (fun x r => tm_w M d u0 Q u S n q L (.int (x >>> (y &&& 31)) :: r) h)) := by
  subst hq; exact (tm_s_d hd).trans (tm_and rfl)
theorem tm_r_iushr (hd : decode (tm_cc M) pc = .ok (.iushr, 1)) (hq : pc + 1 = q)  : tm_s M d u0 Q u S n pc L st h = tm_p1 st (fun y r => tm_p1 r (fun x r => tm_w M d u0 Q u S n q L (.int ((x.toUInt32 >>> (y.toUInt32 &&& Int32.toUInt32 31)).toInt32) :: r) h)) := by
  subst hq; exact (tm_s_d hd).trans (tm_and rfl)
theorem tm_r_idiv (hd : decode (tm_cc M) pc = .ok (.idiv, 1)) (hq : pc + 1 = q)  : tm_s M d u0 Q u S n pc L st h = tm_p1 st (fun y r => tm_p1 r (fun x r => ¬ y = 0 ∧ tm_w M d u0 Q u S n q L (.int (x / y) :: r) h)) := by
  subst hq; exact (tm_s_d hd).trans (tm_and rfl)
theorem tm_r_i2l (hd : decode (tm_cc M) pc = .ok (.i2l, 1)) (hq : pc + 1 = q)  : tm_s M d u0 Q u S n pc L st h = tm_p1 st (fun x r => tm_w M d u0 Q u S n q L (.long x.toInt64 :: r) h) := by
  subst hq; exact (tm_s_d hd).trans (tm_and rfl)
theorem tm_r_lcmp (hd : decode (tm_cc M) pc = .ok (.lcmp, 1)) (hq : pc + 1 = q)  : tm_s M d u0 Q u S n pc L st h = tm_pJ st (fun y r => tm_pJ r (fun x r => tm_w M d u0 Q u S n q L (.int (lg_cmp x y) :: r) h)) := by
  subst hq; exact (tm_s_d hd).trans (tm_and rfl)
theorem tm_r_dup (hd : decode (tm_cc M) pc = .ok (.dup, 1)) (hq : pc + 1 = q)  : tm_s M d u0 Q u S n pc L st h = tm_pV st (fun v r => tm_w M d u0 Q u S n q L (v :: v :: r) h) := by
  subst hq; exact (tm_s_d hd).trans (tm_and rfl)
theorem tm_r_pop (hd : decode (tm_cc M) pc = .ok (.pop, 1)) (hq : pc + 1 = q)  : tm_s M d u0 Q u S n pc L st h = tm_pV st (fun _ r => tm_w M d u0 Q u S n q L r h) := by
  subst hq; exact (tm_s_d hd).trans (tm_and rfl)
theorem tm_r_dup_x1 (hd : decode (tm_cc M) pc = .ok (.dup_x1, 1)) (hq : pc + 1 = q)  : tm_s M d u0 Q u S n pc L st h = tm_pV st (fun v r => tm_pV r (fun w r => tm_w M d u0 Q u S n q L (v :: w :: v :: r) h)) := by
  subst hq; exact (tm_s_d hd).trans (tm_and rfl)
theorem tm_r_dup_x2 (hd : decode (tm_cc M) pc = .ok (.dup_x2, 1)) (hq : pc + 1 = q)  : tm_s M d u0 Q u S n pc L st h = tm_pV st (fun v r => tm_pV r (fun w r => tm_pV r (fun z r => tm_w M d u0 Q u S n q L (v :: w :: z :: v :: r) h))) := by
  subst hq; exact (tm_s_d hd).trans (tm_and rfl)
theorem tm_r_dup2 (hd : decode (tm_cc M) pc = .ok (.dup2, 1)) (hq : pc + 1 = q)  : tm_s M d u0 Q u S n pc L st h = tm_pV st (fun v r => tm_pV r (fun w r => tm_w M d u0 Q u S n q L (v :: w :: v :: w :: r) h)) := by
  subst hq; exact (tm_s_d hd).trans (tm_and rfl)
theorem tm_r_ifeq {off : Int} {t : Nat} (hd : decode (tm_cc M) pc = .ok (.ifCond .eq off, 3)) (hq : pc + 3 = q) (ht : (pc : Int) + off = (t : Int)) : tm_s M d u0 Q u S n pc L st h = tm_p1 st (fun x r => (x = 0 → tm_w M d u0 Q u S n t L r h) ∧ (¬ x = 0 → tm_w M d u0 Q u S n q L r h)) := by
  subst hq; have hp : 0 ≤ (pc : Int) + off := by rw [ht]; exact Int.natCast_nonneg _
  have e : ((pc : Int) + off).toNat = t := by rw [ht]; exact Int.toNat_natCast _
  refine (tm_s_d hd).trans ((tm_and rfl).trans ((tm_and hp).trans ?_))
  rw [e]
  rfl
theorem tm_r_iceq {off : Int} {t : Nat} (hd : decode (tm_cc M) pc = .ok (.if_icmp .eq off, 3)) (hq : pc + 3 = q) (ht : (pc : Int) + off = (t : Int)) : tm_s M d u0 Q u S n pc L st h = tm_p1 st (fun y r => tm_p1 r (fun x r => (x = y → tm_w M d u0 Q u S n t L r h) ∧ (¬ x = y → tm_w M d u0 Q u S n q L r h))) := by
  subst hq; have hp : 0 ≤ (pc : Int) + off := by rw [ht]; exact Int.natCast_nonneg _
  have e : ((pc : Int) + off).toNat = t := by rw [ht]; exact Int.toNat_natCast _
  refine (tm_s_d hd).trans ((tm_and rfl).trans ((tm_and hp).trans ?_))
  rw [e]
  rfl
theorem tm_r_ifne {off : Int} {t : Nat} (hd : decode (tm_cc M) pc = .ok (.ifCond .ne off, 3)) (hq : pc + 3 = q) (ht : (pc : Int) + off = (t : Int)) : tm_s M d u0 Q u S n pc L st h = tm_p1 st (fun x r => (¬ x = 0 → tm_w M d u0 Q u S n t L r h) ∧ (¬ ¬ x = 0 → tm_w M d u0 Q u S n q L r h)) := by
  subst hq; have hp : 0 ≤ (pc : Int) + off := by rw [ht]; exact Int.natCast_nonneg _
  have e : ((pc : Int) + off).toNat = t := by rw [ht]; exact Int.toNat_natCast _
  refine (tm_s_d hd).trans ((tm_and rfl).trans ((tm_and hp).trans ?_))
  rw [e]
  rfl
theorem tm_r_icne {off : Int} {t : Nat} (hd : decode (tm_cc M) pc = .ok (.if_icmp .ne off, 3)) (hq : pc + 3 = q) (ht : (pc : Int) + off = (t : Int)) : tm_s M d u0 Q u S n pc L st h = tm_p1 st (fun y r => tm_p1 r (fun x r => (¬ x = y → tm_w M d u0 Q u S n t L r h) ∧ (¬ ¬ x = y → tm_w M d u0 Q u S n q L r h))) := by
  subst hq; have hp : 0 ≤ (pc : Int) + off := by rw [ht]; exact Int.natCast_nonneg _
  have e : ((pc : Int) + off).toNat = t := by rw [ht]; exact Int.toNat_natCast _
  refine (tm_s_d hd).trans ((tm_and rfl).trans ((tm_and hp).trans ?_))
  rw [e]
  rfl
theorem tm_r_iflt {off : Int} {t : Nat} (hd : decode (tm_cc M) pc = .ok (.ifCond .lt off, 3)) (hq : pc + 3 = q) (ht : (pc : Int) + off = (t : Int)) : tm_s M d u0 Q u S n pc L st h = tm_p1 st (fun x r => (x < 0 → tm_w M d u0 Q u S n t L r h) ∧ (¬ x < 0 → tm_w M d u0 Q u S n q L r h)) := by
  subst hq; have hp : 0 ≤ (pc : Int) + off := by rw [ht]; exact Int.natCast_nonneg _
  have e : ((pc : Int) + off).toNat = t := by rw [ht]; exact Int.toNat_natCast _
  refine (tm_s_d hd).trans ((tm_and rfl).trans ((tm_and hp).trans ?_))
  rw [e]
  rfl
theorem tm_r_iclt {off : Int} {t : Nat} (hd : decode (tm_cc M) pc = .ok (.if_icmp .lt off, 3)) (hq : pc + 3 = q) (ht : (pc : Int) + off = (t : Int)) : tm_s M d u0 Q u S n pc L st h = tm_p1 st (fun y r => tm_p1 r (fun x r => (x < y → tm_w M d u0 Q u S n t L r h) ∧ (¬ x < y → tm_w M d u0 Q u S n q L r h))) := by
  subst hq; have hp : 0 ≤ (pc : Int) + off := by rw [ht]; exact Int.natCast_nonneg _
  have e : ((pc : Int) + off).toNat = t := by rw [ht]; exact Int.toNat_natCast _
  refine (tm_s_d hd).trans ((tm_and rfl).trans ((tm_and hp).trans ?_))
  rw [e]
  rfl
theorem tm_r_ifge {off : Int} {t : Nat} (hd : decode (tm_cc M) pc = .ok (.ifCond .ge off, 3)) (hq : pc + 3 = q) (ht : (pc : Int) + off = (t : Int)) : tm_s M d u0 Q u S n pc L st h = tm_p1 st (fun x r => (0 ≤ x → tm_w M d u0 Q u S n t L r h) ∧ (¬ 0 ≤ x → tm_w M d u0 Q u S n q L r h)) := by
  subst hq; have hp : 0 ≤ (pc : Int) + off := by rw [ht]; exact Int.natCast_nonneg _
  have e : ((pc : Int) + off).toNat = t := by rw [ht]; exact Int.toNat_natCast _
  refine (tm_s_d hd).trans ((tm_and rfl).trans ((tm_and hp).trans ?_))
  rw [e]
  rfl
theorem tm_r_icge {off : Int} {t : Nat} (hd : decode (tm_cc M) pc = .ok (.if_icmp .ge off, 3)) (hq : pc + 3 = q) (ht : (pc : Int) + off = (t : Int)) : tm_s M d u0 Q u S n pc L st h = tm_p1 st (fun y r => tm_p1 r (fun x r => (y ≤ x → tm_w M d u0 Q u S n t L r h) ∧ (¬ y ≤ x → tm_w M d u0 Q u S n q L r h))) := by
  subst hq; have hp : 0 ≤ (pc : Int) + off := by rw [ht]; exact Int.natCast_nonneg _
  have e : ((pc : Int) + off).toNat = t := by rw [ht]; exact Int.toNat_natCast _
  refine (tm_s_d hd).trans ((tm_and rfl).trans ((tm_and hp).trans ?_))
  rw [e]
  rfl
theorem tm_r_ifgt {off : Int} {t : Nat} (hd : decode (tm_cc M) pc = .ok (.ifCond .gt off, 3)) (hq : pc + 3 = q) (ht : (pc : Int) + off = (t : Int)) : tm_s M d u0 Q u S n pc L st h = tm_p1 st (fun x r => (0 < x → tm_w M d u0 Q u S n t L r h) ∧ (¬ 0 < x → tm_w M d u0 Q u S n q L r h)) := by
  subst hq; have hp : 0 ≤ (pc : Int) + off := by rw [ht]; exact Int.natCast_nonneg _
  have e : ((pc : Int) + off).toNat = t := by rw [ht]; exact Int.toNat_natCast _
  refine (tm_s_d hd).trans ((tm_and rfl).trans ((tm_and hp).trans ?_))
  rw [e]
  rfl
theorem tm_r_icgt {off : Int} {t : Nat} (hd : decode (tm_cc M) pc = .ok (.if_icmp .gt off, 3)) (hq : pc + 3 = q) (ht : (pc : Int) + off = (t : Int)) : tm_s M d u0 Q u S n pc L st h = tm_p1 st (fun y r => tm_p1 r (fun x r => (y < x → tm_w M d u0 Q u S n t L r h) ∧ (¬ y < x → tm_w M d u0 Q u S n q L r h))) := by
  subst hq; have hp : 0 ≤ (pc : Int) + off := by rw [ht]; exact Int.natCast_nonneg _
  have e : ((pc : Int) + off).toNat = t := by rw [ht]; exact Int.toNat_natCast _
  refine (tm_s_d hd).trans ((tm_and rfl).trans ((tm_and hp).trans ?_))
  rw [e]
  rfl
theorem tm_r_ifle {off : Int} {t : Nat} (hd : decode (tm_cc M) pc = .ok (.ifCond .le off, 3)) (hq : pc + 3 = q) (ht : (pc : Int) + off = (t : Int)) : tm_s M d u0 Q u S n pc L st h = tm_p1 st (fun x r => (x ≤ 0 → tm_w M d u0 Q u S n t L r h) ∧ (¬ x ≤ 0 → tm_w M d u0 Q u S n q L r h)) := by
  subst hq; have hp : 0 ≤ (pc : Int) + off := by rw [ht]; exact Int.natCast_nonneg _
  have e : ((pc : Int) + off).toNat = t := by rw [ht]; exact Int.toNat_natCast _
  refine (tm_s_d hd).trans ((tm_and rfl).trans ((tm_and hp).trans ?_))
  rw [e]
  rfl
theorem tm_r_icle {off : Int} {t : Nat} (hd : decode (tm_cc M) pc = .ok (.if_icmp .le off, 3)) (hq : pc + 3 = q) (ht : (pc : Int) + off = (t : Int)) : tm_s M d u0 Q u S n pc L st h = tm_p1 st (fun y r => tm_p1 r (fun x r => (x ≤ y → tm_w M d u0 Q u S n t L r h) ∧ (¬ x ≤ y → tm_w M d u0 Q u S n q L r h))) := by
  subst hq; have hp : 0 ≤ (pc : Int) + off := by rw [ht]; exact Int.natCast_nonneg _
  have e : ((pc : Int) + off).toNat = t := by rw [ht]; exact Int.toNat_natCast _
  refine (tm_s_d hd).trans ((tm_and rfl).trans ((tm_and hp).trans ?_))
  rw [e]
  rfl
theorem tm_r_goto {off : Int} {t : Nat} (hd : decode (tm_cc M) pc = .ok (.goto off, 3)) (ht : (pc : Int) + off = (t : Int)) : tm_s M d u0 Q u S n pc L st h = tm_w M d u0 Q u S n t L st h := by
  have hp : 0 ≤ (pc : Int) + off := by rw [ht]; exact Int.natCast_nonneg _
  have e : ((pc : Int) + off).toNat = t := by rw [ht]; exact Int.toNat_natCast _
  refine (tm_s_d hd).trans ((tm_and rfl).trans ((tm_and hp).trans ?_))
  rw [e]
  rfl
theorem tm_r_getf {i ci j : Nat} (hd : decode (tm_cc M) pc = .ok (.getfield i, 3)) (hq : pc + 3 = q) (hf : tm_fl (tm_own M) i = some (ci, j)) : tm_s M d u0 Q u S n pc L st h = tm_pA st (fun a r => tm_cO (h a) ci (fun fs => tm_fv fs j (fun v => tm_w M d u0 Q u S n q L (v :: r) h))) := by
  subst hq; refine (tm_s_d hd).trans ((tm_and rfl).trans ?_); rw [hf]; rfl
theorem tm_r_puti {i ci j : Nat} (hd : decode (tm_cc M) pc = .ok (.putfield i, 3)) (hq : pc + 3 = q) (hf : tm_fp (tm_own M) i = some (ci, j, true)) : tm_s M d u0 Q u S n pc L st h = tm_p1 st (fun v r => tm_pA r (fun a r => tm_cO (h a) ci (fun fs => j < fs.length ∧ tm_w M d u0 Q u S n q L r (tm_up h a (tm_o ci (fs.set j (.int v))))))) := by
  subst hq; refine (tm_s_d hd).trans ((tm_and rfl).trans ?_); rw [hf]; rfl
theorem tm_r_puta {i ci j : Nat} (hd : decode (tm_cc M) pc = .ok (.putfield i, 3)) (hq : pc + 3 = q) (hf : tm_fp (tm_own M) i = some (ci, j, false)) : tm_s M d u0 Q u S n pc L st h = tm_pA st (fun v r => tm_pA r (fun a r => tm_cO (h a) ci (fun fs => j < fs.length ∧ tm_w M d u0 Q u S n q L r (tm_up h a (tm_o ci (fs.set j (.ref v))))))) := by
  subst hq; refine (tm_s_d hd).trans ((tm_and rfl).trans ?_); rw [hf]; rfl
theorem tm_r_iaload (hd : decode (tm_cc M) pc = .ok (.iaload, 1)) (hq : pc + 1 = q)  : tm_s M d u0 Q u S n pc L st h = tm_p1 st (fun i r => tm_pA r (fun a r => tm_cI (h a) (fun k f => vp_in i k ∧ tm_w M d u0 Q u S n q L (.int (f i.toNatClampNeg) :: r) h))) := by
  subst hq; exact (tm_s_d hd).trans (tm_and rfl)
theorem tm_r_baload (hd : decode (tm_cc M) pc = .ok (.baload, 1)) (hq : pc + 1 = q)  : tm_s M d u0 Q u S n pc L st h = tm_p1 st (fun i r => tm_pA r (fun a r => tm_cZ (h a) (fun k f => vp_in i k ∧ tm_w M d u0 Q u S n q L (.int (f i.toNatClampNeg) :: r) h))) := by
  subst hq; exact (tm_s_d hd).trans (tm_and rfl)
theorem tm_r_laload (hd : decode (tm_cc M) pc = .ok (.laload, 1)) (hq : pc + 1 = q)  : tm_s M d u0 Q u S n pc L st h = tm_p1 st (fun i r => tm_pA r (fun a r => tm_cJ (h a) (fun k f => vp_in i k ∧ tm_w M d u0 Q u S n q L (.long (f i.toNatClampNeg) :: r) h))) := by
  subst hq; exact (tm_s_d hd).trans (tm_and rfl)
theorem tm_r_aaload (hd : decode (tm_cc M) pc = .ok (.aaload, 1)) (hq : pc + 1 = q)  : tm_s M d u0 Q u S n pc L st h = tm_p1 st (fun i r => tm_pA r (fun a r => tm_cQ (h a) (fun k f => vp_in i k ∧ tm_rq (f i.toNatClampNeg) (fun b => tm_w M d u0 Q u S n q L (.ref b :: r) h)))) := by
  subst hq; exact (tm_s_d hd).trans (tm_and rfl)
theorem tm_r_iastore (hd : decode (tm_cc M) pc = .ok (.iastore, 1)) (hq : pc + 1 = q)  : tm_s M d u0 Q u S n pc L st h = tm_p1 st (fun x r => tm_p1 r (fun i r => tm_pA r (fun a r => tm_cI (h a) (fun k f => a < tm_K ∧ vp_in i k ∧ tm_w M d u0 Q u S n q L r (tm_up h a (tm_i k (upd f i.toNatClampNeg x))))))) := by
  subst hq; exact (tm_s_d hd).trans (tm_and rfl)
theorem tm_r_bastore (hd : decode (tm_cc M) pc = .ok (.bastore, 1)) (hq : pc + 1 = q)  : tm_s M d u0 Q u S n pc L st h = tm_p1 st (fun x r => tm_p1 r (fun i r => tm_pA r (fun a r => tm_cZ (h a) (fun k f => vp_in i k ∧ tm_w M d u0 Q u S n q L r (tm_up h a (tm_z k (upd f i.toNatClampNeg (vp_nar .boolean x)))))))) := by
  subst hq; exact (tm_s_d hd).trans (tm_and rfl)
theorem tm_r_lastore (hd : decode (tm_cc M) pc = .ok (.lastore, 1)) (hq : pc + 1 = q)  : tm_s M d u0 Q u S n pc L st h = tm_pJ st (fun x r => tm_p1 r (fun i r => tm_pA r (fun a r => tm_cJ (h a) (fun k f => vp_in i k ∧ tm_w M d u0 Q u S n q L r (tm_up h a (tm_j k (vp_updL f i.toNatClampNeg x))))))) := by
  subst hq; exact (tm_s_d hd).trans (tm_and rfl)
theorem tm_r_alen (hd : decode (tm_cc M) pc = .ok (.arraylength, 1)) (hq : pc + 1 = q)  : tm_s M d u0 Q u S n pc L st h = tm_pA st (fun a r => tm_cI (h a) (fun k _ => tm_w M d u0 Q u S n q L (.int (nI k) :: r) h)) := by
  subst hq; exact (tm_s_d hd).trans (tm_and rfl)
theorem tm_r_iret (hd : decode (tm_cc M) pc = .ok (.ireturn, 1)) (hr : tm_rt M = some .int) : tm_s M d u0 Q u S n pc L st h = tm_p1 st (fun x r => r = [] ∧ Q (.inl (some (.int x))) h) := by
  refine (tm_s_d hd).trans ((tm_and rfl).trans ?_)
  refine congrArg (tm_p1 st) (funext fun x => funext fun r => ?_)
  exact propext ⟨fun z => ⟨z.1, z.2.2⟩, fun z => ⟨z.1, Or.inl hr, z.2⟩⟩
theorem tm_r_zret (hd : decode (tm_cc M) pc = .ok (.ireturn, 1)) (hr : tm_rt M = some .boolean) : tm_s M d u0 Q u S n pc L st h = tm_p1 st (fun x r => r = [] ∧ (x = 0 ∨ x = 1) ∧ Q (.inl (some (.int x))) h) := by
  refine (tm_s_d hd).trans ((tm_and rfl).trans ?_)
  refine congrArg (tm_p1 st) (funext fun x => funext fun r => ?_)
  exact propext ⟨fun z => ⟨z.1, z.2.1.elim (fun w => by rw [hr] at w; cases w) (fun w => w.2), z.2.2⟩, fun z => ⟨z.1, Or.inr ⟨hr, z.2.1⟩, z.2.2⟩⟩
theorem tm_r_aret {c : String} (hd : decode (tm_cc M) pc = .ok (.areturn, 1)) (hr : tm_rt M = some (.object c)) : tm_s M d u0 Q u S n pc L st h = tm_pA st (fun x r => r = [] ∧ Q (.inl (some (.ref x))) h) := by
  refine (tm_s_d hd).trans ((tm_and rfl).trans ?_)
  refine congrArg (tm_pA st) (funext fun x => funext fun r => ?_)
  exact propext ⟨fun z => ⟨z.1, z.2.2⟩, fun z => ⟨z.1, ⟨c, hr⟩, z.2⟩⟩
theorem tm_r_vret (hd : decode (tm_cc M) pc = .ok (.return_, 1)) (hr : tm_rt M = none) : tm_s M d u0 Q u S n pc L st h = (st = [] ∧ Q (.inl none) h) := by
  refine (tm_s_d hd).trans ((tm_and rfl).trans ?_)
  exact propext ⟨fun z => ⟨z.1, z.2.2⟩, fun z => ⟨z.1, hr, z.2⟩⟩
theorem tm_r_invs {i : Nat} (hd : decode (tm_cc M) pc = .ok (.invokestatic i, 3))  : tm_s M d u0 Q u S n pc L st h = tm_T M d u0 Q u pc L st h := by
  exact tm_s_d hd
theorem tm_r_invv {i : Nat} (hd : decode (tm_cc M) pc = .ok (.invokevirtual i, 3))  : tm_s M d u0 Q u S n pc L st h = tm_T M d u0 Q u pc L st h := by
  exact tm_s_d hd
theorem tm_r_invi {i : Nat} (hd : decode (tm_cc M) pc = .ok (.invokespecial i, 3))  : tm_s M d u0 Q u S n pc L st h = tm_T M d u0 Q u pc L st h := by
  exact tm_s_d hd
theorem tm_r_new {i : Nat} (hd : decode (tm_cc M) pc = .ok (.new i, 3))  : tm_s M d u0 Q u S n pc L st h = tm_T M d u0 Q u pc L st h := by
  exact tm_s_d hd
theorem tm_r_tsw {a b c : Int} {e : Array Int} {len : Nat} (hd : decode (tm_cc M) pc = .ok (.tableswitch a b c e, len))  : tm_s M d u0 Q u S n pc L st h = tm_T M d u0 Q u pc L st h := by
  exact tm_s_d hd
end TMN
end
