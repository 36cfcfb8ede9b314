/-- a private method of a class that the tables say can be made, by its rows of tables_1 -/
def lw_okq (q : MethodName × Nat) : Prop := (q.1.cls ≠ "java/lang/invoke/MethodHandle" ∧ q.1.cls ≠ "java/lang/invoke/VarHandle") ∧ Cond.instantiable q.1.cls q.2 ∈ tables_1 ∧ Cond.privateMethod q.1 ∈ tables_1 ∧ Cond.instanceMethod q.1 ∈ tables_1
theorem lw_p0 : lw_okq (⟨"BogForge", "bogAt", "(I)LBogForge$Bog;"⟩, 17) := ⟨⟨by decide +kernel, by decide +kernel⟩, List.mem_of_getElem? (i := 19) (by decide +kernel), List.mem_of_getElem? (i := 356) (by decide +kernel), List.mem_of_getElem? (i := 357) (by decide +kernel)⟩
theorem lw_p1 : lw_okq (⟨"BogForge$Founder", "open", "(I)V"⟩, 5) := ⟨⟨by decide +kernel, by decide +kernel⟩, List.mem_of_getElem? (i := 60) (by decide +kernel), List.mem_of_getElem? (i := 467) (by decide +kernel), List.mem_of_getElem? (i := 468) (by decide +kernel)⟩
theorem lw_p2 : lw_okq (⟨"BogForge$Founder", "learnWithin", "(IIZ)V"⟩, 5) := ⟨⟨by decide +kernel, by decide +kernel⟩, List.mem_of_getElem? (i := 60) (by decide +kernel), List.mem_of_getElem? (i := 471) (by decide +kernel), List.mem_of_getElem? (i := 472) (by decide +kernel)⟩
theorem lw_p3 : lw_okq (⟨"BogForge$Parting", "greatestRest", "(I)I"⟩, 2) := ⟨⟨by decide +kernel, by decide +kernel⟩, List.mem_of_getElem? (i := 247) (by decide +kernel), List.mem_of_getElem? (i := 502) (by decide +kernel), List.mem_of_getElem? (i := 503) (by decide +kernel)⟩
theorem lw_p4 : lw_okq (⟨"BogForge$Hearth", "reduce", "(ILBogForge$Parting;)V"⟩, 14) := ⟨⟨by decide +kernel, by decide +kernel⟩, List.mem_of_getElem? (i := 82) (by decide +kernel), List.mem_of_getElem? (i := 527) (by decide +kernel), List.mem_of_getElem? (i := 528) (by decide +kernel)⟩
theorem lw_p5 : lw_okq (⟨"BogForge$Hearth", "noteScorch", "()V"⟩, 14) := ⟨⟨by decide +kernel, by decide +kernel⟩, List.mem_of_getElem? (i := 82) (by decide +kernel), List.mem_of_getElem? (i := 532) (by decide +kernel), List.mem_of_getElem? (i := 533) (by decide +kernel)⟩
theorem lw_p6 : lw_okq (⟨"BogForge", "ironInBloom", "(Z)I"⟩, 17) := ⟨⟨by decide +kernel, by decide +kernel⟩, List.mem_of_getElem? (i := 19) (by decide +kernel), List.mem_of_getElem? (i := 583) (by decide +kernel), List.mem_of_getElem? (i := 584) (by decide +kernel)⟩
theorem lw_p7 : lw_okq (⟨"BogForge", "barAt", "(I)LBogForge$Bar;"⟩, 17) := ⟨⟨by decide +kernel, by decide +kernel⟩, List.mem_of_getElem? (i := 19) (by decide +kernel), List.mem_of_getElem? (i := 604) (by decide +kernel), List.mem_of_getElem? (i := 605) (by decide +kernel)⟩
theorem lw_p8 : lw_okq (⟨"BogForge", "settle", "(I)I"⟩, 17) := ⟨⟨by decide +kernel, by decide +kernel⟩, List.mem_of_getElem? (i := 19) (by decide +kernel), List.mem_of_getElem? (i := 671) (by decide +kernel), List.mem_of_getElem? (i := 672) (by decide +kernel)⟩
theorem lw_p9 : lw_okq (⟨"BogForge$Rights", "inForce", "(III)I"⟩, 5) := ⟨⟨by decide +kernel, by decide +kernel⟩, List.mem_of_getElem? (i := 152) (by decide +kernel), List.mem_of_getElem? (i := 679) (by decide +kernel), List.mem_of_getElem? (i := 680) (by decide +kernel)⟩
theorem lw_p10 : lw_okq (⟨"BogForge$Ledger", "grow", "()V"⟩, 6) := ⟨⟨by decide +kernel, by decide +kernel⟩, List.mem_of_getElem? (i := 176) (by decide +kernel), List.mem_of_getElem? (i := 692) (by decide +kernel), List.mem_of_getElem? (i := 693) (by decide +kernel)⟩
theorem lw_p11 : lw_okq (⟨"BogForge$Orders", "ordersThatFit", "(II)I"⟩, 10) := ⟨⟨by decide +kernel, by decide +kernel⟩, List.mem_of_getElem? (i := 207) (by decide +kernel), List.mem_of_getElem? (i := 747) (by decide +kernel), List.mem_of_getElem? (i := 748) (by decide +kernel)⟩
theorem lw_p12 : lw_okq (⟨"BogForge$Orders", "findBar", "(I)Z"⟩, 10) := ⟨⟨by decide +kernel, by decide +kernel⟩, List.mem_of_getElem? (i := 207) (by decide +kernel), List.mem_of_getElem? (i := 752) (by decide +kernel), List.mem_of_getElem? (i := 753) (by decide +kernel)⟩
theorem lw_p13 : lw_okq (⟨"BogForge$Orders", "handOver", "(I)V"⟩, 10) := ⟨⟨by decide +kernel, by decide +kernel⟩, List.mem_of_getElem? (i := 207) (by decide +kernel), List.mem_of_getElem? (i := 756) (by decide +kernel), List.mem_of_getElem? (i := 757) (by decide +kernel)⟩
theorem lw_p14 : lw_okq (⟨"BogForge$Orders", "promiseLowest", "(I)V"⟩, 10) := ⟨⟨by decide +kernel, by decide +kernel⟩, List.mem_of_getElem? (i := 207) (by decide +kernel), List.mem_of_getElem? (i := 760) (by decide +kernel), List.mem_of_getElem? (i := 761) (by decide +kernel)⟩
theorem lw_p15 : lw_okq (⟨"BogForge$Orders", "moveTo", "(II)Z"⟩, 10) := ⟨⟨by decide +kernel, by decide +kernel⟩, List.mem_of_getElem? (i := 207) (by decide +kernel), List.mem_of_getElem? (i := 764) (by decide +kernel), List.mem_of_getElem? (i := 765) (by decide +kernel)⟩
def lw_privs_1 : List (MethodName × Nat) := [(⟨"BogForge", "bogAt", "(I)LBogForge$Bog;"⟩, 17), (⟨"BogForge$Founder", "open", "(I)V"⟩, 5), (⟨"BogForge$Founder", "learnWithin", "(IIZ)V"⟩, 5), (⟨"BogForge$Parting", "greatestRest", "(I)I"⟩, 2), (⟨"BogForge$Hearth", "reduce", "(ILBogForge$Parting;)V"⟩, 14), (⟨"BogForge$Hearth", "noteScorch", "()V"⟩, 14), (⟨"BogForge", "ironInBloom", "(Z)I"⟩, 17), (⟨"BogForge", "barAt", "(I)LBogForge$Bar;"⟩, 17), (⟨"BogForge", "settle", "(I)I"⟩, 17), (⟨"BogForge$Rights", "inForce", "(III)I"⟩, 5), (⟨"BogForge$Ledger", "grow", "()V"⟩, 6), (⟨"BogForge$Orders", "ordersThatFit", "(II)I"⟩, 10), (⟨"BogForge$Orders", "findBar", "(I)Z"⟩, 10), (⟨"BogForge$Orders", "handOver", "(I)V"⟩, 10), (⟨"BogForge$Orders", "promiseLowest", "(I)V"⟩, 10), (⟨"BogForge$Orders", "moveTo", "(II)Z"⟩, 10)]
theorem lw_r1 : ∀ q ∈ lw_privs_1, lw_okq q := List.forall_mem_cons.mpr ⟨lw_p0, List.forall_mem_cons.mpr ⟨lw_p1, List.forall_mem_cons.mpr ⟨lw_p2, List.forall_mem_cons.mpr ⟨lw_p3, List.forall_mem_cons.mpr ⟨lw_p4, List.forall_mem_cons.mpr ⟨lw_p5, List.forall_mem_cons.mpr ⟨lw_p6, List.forall_mem_cons.mpr ⟨lw_p7, List.forall_mem_cons.mpr ⟨lw_p8, List.forall_mem_cons.mpr ⟨lw_p9, List.forall_mem_cons.mpr ⟨lw_p10, List.forall_mem_cons.mpr ⟨lw_p11, List.forall_mem_cons.mpr ⟨lw_p12, List.forall_mem_cons.mpr ⟨lw_p13, List.forall_mem_cons.mpr ⟨lw_p14, List.forall_mem_cons.mpr ⟨lw_p15, fun _ h => absurd h List.not_mem_nil⟩⟩⟩⟩⟩⟩⟩⟩⟩⟩⟩⟩⟩⟩⟩⟩
theorem lw_p16 : lw_okq (⟨"BogForge$Orders", "findBarAfter", "(I)Z"⟩, 10) := ⟨⟨by decide +kernel, by decide +kernel⟩, List.mem_of_getElem? (i := 207) (by decide +kernel), List.mem_of_getElem? (i := 768) (by decide +kernel), List.mem_of_getElem? (i := 769) (by decide +kernel)⟩
theorem lw_p17 : lw_okq (⟨"BogForge$Orders", "barsFor", "(I)I"⟩, 10) := ⟨⟨by decide +kernel, by decide +kernel⟩, List.mem_of_getElem? (i := 207) (by decide +kernel), List.mem_of_getElem? (i := 781) (by decide +kernel), List.mem_of_getElem? (i := 782) (by decide +kernel)⟩
theorem lw_p18 : lw_okq (⟨"BogForgeModel", "isBog", "(I)Z"⟩, 69) := ⟨⟨by decide +kernel, by decide +kernel⟩, List.mem_of_getElem? (i := 799) (by decide +kernel), List.mem_of_getElem? (i := 1025) (by decide +kernel), List.mem_of_getElem? (i := 1026) (by decide +kernel)⟩
theorem lw_p19 : lw_okq (⟨"BogForgeModel", "partBy", "(I[I)V"⟩, 69) := ⟨⟨by decide +kernel, by decide +kernel⟩, List.mem_of_getElem? (i := 799) (by decide +kernel), List.mem_of_getElem? (i := 1059) (by decide +kernel), List.mem_of_getElem? (i := 1060) (by decide +kernel)⟩
theorem lw_p20 : lw_okq (⟨"BogForgeModel", "partAmong", "(JI)V"⟩, 69) := ⟨⟨by decide +kernel, by decide +kernel⟩, List.mem_of_getElem? (i := 799) (by decide +kernel), List.mem_of_getElem? (i := 1063) (by decide +kernel), List.mem_of_getElem? (i := 1064) (by decide +kernel)⟩
theorem lw_p21 : lw_okq (⟨"BogForgeModel", "minute", "()V"⟩, 69) := ⟨⟨by decide +kernel, by decide +kernel⟩, List.mem_of_getElem? (i := 799) (by decide +kernel), List.mem_of_getElem? (i := 1071) (by decide +kernel), List.mem_of_getElem? (i := 1072) (by decide +kernel)⟩
theorem lw_p22 : lw_okq (⟨"BogForgeModel", "holds", "(I)Z"⟩, 69) := ⟨⟨by decide +kernel, by decide +kernel⟩, List.mem_of_getElem? (i := 799) (by decide +kernel), List.mem_of_getElem? (i := 1075) (by decide +kernel), List.mem_of_getElem? (i := 1076) (by decide +kernel)⟩
theorem lw_p23 : lw_okq (⟨"BogForgeModel", "look", "()I"⟩, 69) := ⟨⟨by decide +kernel, by decide +kernel⟩, List.mem_of_getElem? (i := 799) (by decide +kernel), List.mem_of_getElem? (i := 1098) (by decide +kernel), List.mem_of_getElem? (i := 1099) (by decide +kernel)⟩
theorem lw_p24 : lw_okq (⟨"BogForgeModel", "clause", "()Z"⟩, 69) := ⟨⟨by decide +kernel, by decide +kernel⟩, List.mem_of_getElem? (i := 799) (by decide +kernel), List.mem_of_getElem? (i := 1102) (by decide +kernel), List.mem_of_getElem? (i := 1103) (by decide +kernel)⟩
theorem lw_p25 : lw_okq (⟨"BogForgeModel", "isBar", "(I)Z"⟩, 69) := ⟨⟨by decide +kernel, by decide +kernel⟩, List.mem_of_getElem? (i := 799) (by decide +kernel), List.mem_of_getElem? (i := 1124) (by decide +kernel), List.mem_of_getElem? (i := 1125) (by decide +kernel)⟩
theorem lw_p26 : lw_okq (⟨"BogForgeModel", "sortOf", "(I)I"⟩, 69) := ⟨⟨by decide +kernel, by decide +kernel⟩, List.mem_of_getElem? (i := 799) (by decide +kernel), List.mem_of_getElem? (i := 1131) (by decide +kernel), List.mem_of_getElem? (i := 1132) (by decide +kernel)⟩
theorem lw_p27 : lw_okq (⟨"BogForgeModel", "settle", "(I)I"⟩, 69) := ⟨⟨by decide +kernel, by decide +kernel⟩, List.mem_of_getElem? (i := 799) (by decide +kernel), List.mem_of_getElem? (i := 1155) (by decide +kernel), List.mem_of_getElem? (i := 1156) (by decide +kernel)⟩
theorem lw_p28 : lw_okq (⟨"BogForgeModel", "inForce", "(III)I"⟩, 69) := ⟨⟨by decide +kernel, by decide +kernel⟩, List.mem_of_getElem? (i := 799) (by decide +kernel), List.mem_of_getElem? (i := 1159) (by decide +kernel), List.mem_of_getElem? (i := 1160) (by decide +kernel)⟩
theorem lw_p29 : lw_okq (⟨"BogForgeModel", "giveAll", "()I"⟩, 69) := ⟨⟨by decide +kernel, by decide +kernel⟩, List.mem_of_getElem? (i := 799) (by decide +kernel), List.mem_of_getElem? (i := 1190) (by decide +kernel), List.mem_of_getElem? (i := 1191) (by decide +kernel)⟩
theorem lw_p30 : lw_okq (⟨"BogForgeModel", "most", "(I)I"⟩, 69) := ⟨⟨by decide +kernel, by decide +kernel⟩, List.mem_of_getElem? (i := 799) (by decide +kernel), List.mem_of_getElem? (i := 1194) (by decide +kernel), List.mem_of_getElem? (i := 1195) (by decide +kernel)⟩
theorem lw_p31 : lw_okq (⟨"BogForgeModel", "finds", "(II)Z"⟩, 69) := ⟨⟨by decide +kernel, by decide +kernel⟩, List.mem_of_getElem? (i := 799) (by decide +kernel), List.mem_of_getElem? (i := 1198) (by decide +kernel), List.mem_of_getElem? (i := 1199) (by decide +kernel)⟩
def lw_privs_2 : List (MethodName × Nat) := [(⟨"BogForge$Orders", "findBarAfter", "(I)Z"⟩, 10), (⟨"BogForge$Orders", "barsFor", "(I)I"⟩, 10), (⟨"BogForgeModel", "isBog", "(I)Z"⟩, 69), (⟨"BogForgeModel", "partBy", "(I[I)V"⟩, 69), (⟨"BogForgeModel", "partAmong", "(JI)V"⟩, 69), (⟨"BogForgeModel", "minute", "()V"⟩, 69), (⟨"BogForgeModel", "holds", "(I)Z"⟩, 69), (⟨"BogForgeModel", "look", "()I"⟩, 69), (⟨"BogForgeModel", "clause", "()Z"⟩, 69), (⟨"BogForgeModel", "isBar", "(I)Z"⟩, 69), (⟨"BogForgeModel", "sortOf", "(I)I"⟩, 69), (⟨"BogForgeModel", "settle", "(I)I"⟩, 69), (⟨"BogForgeModel", "inForce", "(III)I"⟩, 69), (⟨"BogForgeModel", "giveAll", "()I"⟩, 69), (⟨"BogForgeModel", "most", "(I)I"⟩, 69), (⟨"BogForgeModel", "finds", "(II)Z"⟩, 69)]
theorem lw_r2 : ∀ q ∈ lw_privs_2, lw_okq q := List.forall_mem_cons.mpr ⟨lw_p16, List.forall_mem_cons.mpr ⟨lw_p17, List.forall_mem_cons.mpr ⟨lw_p18, List.forall_mem_cons.mpr ⟨lw_p19, List.forall_mem_cons.mpr ⟨lw_p20, List.forall_mem_cons.mpr ⟨lw_p21, List.forall_mem_cons.mpr ⟨lw_p22, List.forall_mem_cons.mpr ⟨lw_p23, List.forall_mem_cons.mpr ⟨lw_p24, List.forall_mem_cons.mpr ⟨lw_p25, List.forall_mem_cons.mpr ⟨lw_p26, List.forall_mem_cons.mpr ⟨lw_p27, List.forall_mem_cons.mpr ⟨lw_p28, List.forall_mem_cons.mpr ⟨lw_p29, List.forall_mem_cons.mpr ⟨lw_p30, List.forall_mem_cons.mpr ⟨lw_p31, fun _ h => absurd h List.not_mem_nil⟩⟩⟩⟩⟩⟩⟩⟩⟩⟩⟩⟩⟩⟩⟩⟩
theorem lw_p32 : lw_okq (⟨"BogForgeModel", "fits", "(II)Z"⟩, 69) := ⟨⟨by decide +kernel, by decide +kernel⟩, List.mem_of_getElem? (i := 799) (by decide +kernel), List.mem_of_getElem? (i := 1202) (by decide +kernel), List.mem_of_getElem? (i := 1203) (by decide +kernel)⟩
theorem lw_p33 : lw_okq (⟨"BogForgeModel", "isGiven", "(II)Z"⟩, 69) := ⟨⟨by decide +kernel, by decide +kernel⟩, List.mem_of_getElem? (i := 799) (by decide +kernel), List.mem_of_getElem? (i := 1206) (by decide +kernel), List.mem_of_getElem? (i := 1207) (by decide +kernel)⟩
theorem lw_p34 : lw_okq (⟨"BogForgeModel", "couldHave", "(I)I"⟩, 69) := ⟨⟨by decide +kernel, by decide +kernel⟩, List.mem_of_getElem? (i := 799) (by decide +kernel), List.mem_of_getElem? (i := 1215) (by decide +kernel), List.mem_of_getElem? (i := 1216) (by decide +kernel)⟩
def lw_privs_3 : List (MethodName × Nat) := [(⟨"BogForgeModel", "fits", "(II)Z"⟩, 69), (⟨"BogForgeModel", "isGiven", "(II)Z"⟩, 69), (⟨"BogForgeModel", "couldHave", "(I)I"⟩, 69)]
theorem lw_r3 : ∀ q ∈ lw_privs_3, lw_okq q := List.forall_mem_cons.mpr ⟨lw_p32, List.forall_mem_cons.mpr ⟨lw_p33, List.forall_mem_cons.mpr ⟨lw_p34, fun _ h => absurd h List.not_mem_nil⟩⟩⟩
def lw_privs : List (MethodName × Nat) := lw_privs_1 ++ (lw_privs_2 ++ (lw_privs_3))
def lw_tbl : List Cond := k2_sels lw_privs ++ tables_1
theorem lw_privs_ok : ∀ q ∈ lw_privs, lw_okq q := by
  show ∀ q ∈ lw_privs_1 ++ (lw_privs_2 ++ (lw_privs_3)), lw_okq q
  exact List.forall_mem_append.mpr ⟨lw_r1, List.forall_mem_append.mpr ⟨lw_r2, lw_r3⟩⟩
def RX0 : String := "BogForge$Bar"
def TX0 : u_T := fun k => match k with
  | 0 => ("BogForge$Bar", "ore", "[I", true)
  | 1 => ("BogForge$Bar", "coal", "[I", true)
  | 2 => ("BogForge$Bar", "drawnSort", "I", true)
  | 3 => ("BogForge$Bar", "drawnIn", "I", true)
  | 4 => ("BogForge$Bar", "least", "I", false)
  | 5 => ("BogForge$Bar", "greatest", "I", false)
  | _ => ("BogForge$Bar", "heats", "I", false)
def tyX0 : Nat → FieldType := fun k => match k with
  | 0 => .array .int
  | 1 => .array .int
  | 2 => .int
  | 3 => .int
  | 4 => .int
  | 5 => .int
  | _ => .int
abbrev wsX00 : List Cond := u_ws RX0 TX0 7
theorem nmX0 : ∀ a, a < 7 → ∀ b, b < 7 → a ≠ b → (TX0 a).2.1 ≠ (TX0 b).2.1 := by decide +kernel
theorem tyX0_ok : ∀ k, k < 7 → parseFieldDescriptor (TX0 k).2.2.1 = some (tyX0 k) := by decide +kernel
abbrev cX0_init : ByteArray := prog_2_method_1_code
def yX0_init : MethodName := ⟨RX0, "<init>", "(II)V"⟩
abbrev cX0_setIron : ByteArray := prog_2_method_2_code
def yX0_setIron : MethodName := ⟨RX0, "setIron", "(II)V"⟩
abbrev cX0_heatOnce : ByteArray := prog_2_method_3_code
def yX0_heatOnce : MethodName := ⟨RX0, "heatOnce", "()V"⟩
abbrev cX0_sortNow : ByteArray := prog_2_method_4_code
def yX0_sortNow : MethodName := ⟨RX0, "sortNow", "()I"⟩
def RX1 : String := "BogForge$Bog"
def TX1 : u_T := fun k => match k with
  | 0 => ("BogForge$Bog", "ore", "I", false)
  | 1 => ("BogForge$Bog", "growth", "I", true)
  | 2 => ("BogForge$Bog", "rest", "I", true)
  | 3 => ("BogForge$Bog", "lower", "I", false)
  | 4 => ("BogForge$Bog", "upper", "I", false)
  | _ => ("BogForge$Bog", "lastDug", "I", false)
def tyX1 : Nat → FieldType := fun k => match k with
  | 0 => .int
  | 1 => .int
  | 2 => .int
  | 3 => .int
  | 4 => .int
  | _ => .int
abbrev wsX10 : List Cond := u_ws RX1 TX1 6
theorem nmX1 : ∀ a, a < 6 → ∀ b, b < 6 → a ≠ b → (TX1 a).2.1 ≠ (TX1 b).2.1 := by decide +kernel
theorem tyX1_ok : ∀ k, k < 6 → parseFieldDescriptor (TX1 k).2.2.1 = some (tyX1 k) := by decide +kernel
abbrev cX1_init : ByteArray := prog_3_method_1_code
def yX1_init : MethodName := ⟨RX1, "<init>", "(III)V"⟩
abbrev cX1_narrow : ByteArray := prog_3_method_2_code
def yX1_narrow : MethodName := ⟨RX1, "narrow", "(II)Z"⟩
abbrev cX1_restsIn : ByteArray := prog_3_method_3_code
def yX1_restsIn : MethodName := ⟨RX1, "restsIn", "(I)Z"⟩
abbrev cX1_grow : ByteArray := prog_3_method_4_code
def yX1_grow : MethodName := ⟨RX1, "grow", "()V"⟩
def RX2 : String := "BogForge$Founder"
def TX2 : u_T := fun k => match k with
  | 0 => ("BogForge$Founder", "letters", "[I", true)
  | 1 => ("BogForge$Founder", "signs", "[I", true)
  | 2 => ("BogForge$Founder", "numbers", "[I", true)
  | 3 => ("BogForge$Founder", "airs", "[I", true)
  | _ => ("BogForge$Founder", "clauses", "I", false)
def tyX2 : Nat → FieldType := fun k => match k with
  | 0 => .array .int
  | 1 => .array .int
  | 2 => .array .int
  | 3 => .array .int
  | _ => .int
abbrev wsX20 : List Cond := u_ws RX2 TX2 5
theorem nmX2 : ∀ a, a < 5 → ∀ b, b < 5 → a ≠ b → (TX2 a).2.1 ≠ (TX2 b).2.1 := by decide +kernel
theorem tyX2_ok : ∀ k, k < 5 → parseFieldDescriptor (TX2 k).2.2.1 = some (tyX2 k) := by decide +kernel
abbrev cX2_init : ByteArray := prog_4_method_1_code
def yX2_init : MethodName := ⟨RX2, "<init>", "()V"⟩
abbrev cX2_learn : ByteArray := prog_4_method_2_code
def yX2_learn : MethodName := ⟨RX2, "learn", "(LBogForge$Tape;)V"⟩
abbrev cX2_open : ByteArray := prog_4_method_3_code
def yX2_open : MethodName := ⟨RX2, "open", "(I)V"⟩
abbrev cX2_learnWithin : ByteArray := prog_4_method_4_code
def yX2_learnWithin : MethodName := ⟨RX2, "learnWithin", "(IIZ)V"⟩
abbrev cX2_airFor : ByteArray := prog_4_method_5_code
def yX2_airFor : MethodName := ⟨RX2, "airFor", "(LBogForge$Hearth;)I"⟩
abbrev cX2_reading : ByteArray := prog_4_method_6_code
def yX2_reading : MethodName := ⟨RX2, "reading", "(ILBogForge$Hearth;)I"⟩
abbrev cX2_holds : ByteArray := prog_4_method_7_code
def yX2_holds : MethodName := ⟨RX2, "holds", "(III)Z"⟩
def RX3 : String := "BogForge$Hearth"
def TX3 : u_T := fun k => match k with
  | 0 => ("BogForge$Hearth", "ore", "[I", true)
  | 1 => ("BogForge$Hearth", "bloom", "[I", true)
  | 2 => ("BogForge$Hearth", "charged", "[I", true)
  | 3 => ("BogForge$Hearth", "oreLeft", "I", false)
  | 4 => ("BogForge$Hearth", "coalLeft", "I", false)
  | 5 => ("BogForge$Hearth", "burnt", "I", false)
  | 6 => ("BogForge$Hearth", "heat", "I", false)
  | 7 => ("BogForge$Hearth", "minutes", "I", false)
  | 8 => ("BogForge$Hearth", "seen", "I", false)
  | 9 => ("BogForge$Hearth", "air", "I", false)
  | 10 => ("BogForge$Hearth", "scorch", "I", false)
  | 11 => ("BogForge$Hearth", "firstScorch", "I", false)
  | 12 => ("BogForge$Hearth", "water", "I", false)
  | _ => ("BogForge$Hearth", "gap", "I", false)
def tyX3 : Nat → FieldType := fun k => match k with
  | 0 => .array .int
  | 1 => .array .int
  | 2 => .array .int
  | 3 => .int
  | 4 => .int
  | 5 => .int
  | 6 => .int
  | 7 => .int
  | 8 => .int
  | 9 => .int
  | 10 => .int
  | 11 => .int
  | 12 => .int
  | _ => .int
abbrev wsX30 : List Cond := u_ws RX3 TX3 14
theorem nmX3 : ∀ a, a < 14 → ∀ b, b < 14 → a ≠ b → (TX3 a).2.1 ≠ (TX3 b).2.1 := by decide +kernel
theorem tyX3_ok : ∀ k, k < 14 → parseFieldDescriptor (TX3 k).2.2.1 = some (tyX3 k) := by decide +kernel
abbrev cX3_init : ByteArray := prog_5_method_1_code
def yX3_init : MethodName := ⟨RX3, "<init>", "()V"⟩
abbrev cX3_isFilled : ByteArray := prog_5_method_2_code
def yX3_isFilled : MethodName := ⟨RX3, "isFilled", "()Z"⟩
abbrev cX3_passMinute : ByteArray := prog_5_method_3_code
def yX3_passMinute : MethodName := ⟨RX3, "passMinute", "(LBogForge$Founder;LBogForge$Parting;)V"⟩
abbrev cX3_reduce : ByteArray := prog_5_method_4_code
def yX3_reduce : MethodName := ⟨RX3, "reduce", "(ILBogForge$Parting;)V"⟩
abbrev cX3_noteScorch : ByteArray := prog_5_method_5_code
def yX3_noteScorch : MethodName := ⟨RX3, "noteScorch", "()V"⟩
abbrev cX3_sortOfBloom : ByteArray := prog_5_method_6_code
def yX3_sortOfBloom : MethodName := ⟨RX3, "sortOfBloom", "()I"⟩
abbrev cX3_empty : ByteArray := prog_5_method_7_code
def yX3_empty : MethodName := ⟨RX3, "empty", "()V"⟩
def RX4 : String := "BogForge$Ledger"
def TX4 : u_T := fun k => match k with
  | 0 => ("BogForge$Ledger", "years", "[I", false)
  | 1 => ("BogForge$Ledger", "payNumbers", "[I", false)
  | 2 => ("BogForge$Ledger", "holders", "[I", false)
  | 3 => ("BogForge$Ledger", "amounts", "[I", false)
  | 4 => ("BogForge$Ledger", "totals", "[I", true)
  | _ => ("BogForge$Ledger", "size", "I", false)
def tyX4 : Nat → FieldType := fun k => match k with
  | 0 => .array .int
  | 1 => .array .int
  | 2 => .array .int
  | 3 => .array .int
  | 4 => .array .int
  | _ => .int
abbrev wsX40 : List Cond := u_ws RX4 TX4 6
theorem nmX4 : ∀ a, a < 6 → ∀ b, b < 6 → a ≠ b → (TX4 a).2.1 ≠ (TX4 b).2.1 := by decide +kernel
theorem tyX4_ok : ∀ k, k < 6 → parseFieldDescriptor (TX4 k).2.2.1 = some (tyX4 k) := by decide +kernel
abbrev cX4_init : ByteArray := prog_6_method_1_code
def yX4_init : MethodName := ⟨RX4, "<init>", "()V"⟩
abbrev cX4_hasRoom : ByteArray := prog_6_method_2_code
def yX4_hasRoom : MethodName := ⟨RX4, "hasRoom", "()Z"⟩
abbrev cX4_write : ByteArray := prog_6_method_3_code
def yX4_write : MethodName := ⟨RX4, "write", "(IIII)V"⟩
abbrev cX4_grow : ByteArray := prog_6_method_4_code
def yX4_grow : MethodName := ⟨RX4, "grow", "()V"⟩
def RX5 : String := "BogForge$Orders"
def TX5 : u_T := fun k => match k with
  | 0 => ("BogForge$Orders", "sorts", "[I", true)
  | 1 => ("BogForge$Orders", "leasts", "[I", true)
  | 2 => ("BogForge$Orders", "barOf", "[I", true)
  | 3 => ("BogForge$Orders", "size", "I", false)
  | 4 => ("BogForge$Orders", "couldMeet", "[I", true)
  | 5 => ("BogForge$Orders", "takenBy", "[I", true)
  | 6 => ("BogForge$Orders", "promised", "[Z", true)
  | 7 => ("BogForge$Orders", "cameFrom", "[I", true)
  | 8 => ("BogForge$Orders", "queue", "[I", true)
  | _ => ("BogForge$Orders", "barsKnown", "I", false)
def tyX5 : Nat → FieldType := fun k => match k with
  | 0 => .array .int
  | 1 => .array .int
  | 2 => .array .int
  | 3 => .int
  | 4 => .array .int
  | 5 => .array .int
  | 6 => .array .boolean
  | 7 => .array .int
  | 8 => .array .int
  | _ => .int
abbrev wsX50 : List Cond := u_ws RX5 TX5 10
theorem nmX5 : ∀ a, a < 10 → ∀ b, b < 10 → a ≠ b → (TX5 a).2.1 ≠ (TX5 b).2.1 := by decide +kernel
theorem tyX5_ok : ∀ k, k < 10 → parseFieldDescriptor (TX5 k).2.2.1 = some (tyX5 k) := by decide +kernel
abbrev cX5_init : ByteArray := prog_7_method_1_code
def yX5_init : MethodName := ⟨RX5, "<init>", "()V"⟩
abbrev cX5_take : ByteArray := prog_7_method_2_code
def yX5_take : MethodName := ⟨RX5, "take", "(II)I"⟩
abbrev cX5_weigh : ByteArray := prog_7_method_3_code
def yX5_weigh : MethodName := ⟨RX5, "weigh", "([LBogForge$Bar;I)V"⟩
abbrev cX5_ordersThatFit : ByteArray := prog_7_method_4_code
def yX5_ordersThatFit : MethodName := ⟨RX5, "ordersThatFit", "(II)I"⟩
abbrev cX5_match : ByteArray := prog_7_method_5_code
def yX5_match : MethodName := ⟨RX5, "match", "([LBogForge$Bar;I)V"⟩
abbrev cX5_findBar : ByteArray := prog_7_method_6_code
def yX5_findBar : MethodName := ⟨RX5, "findBar", "(I)Z"⟩
abbrev cX5_handOver : ByteArray := prog_7_method_7_code
def yX5_handOver : MethodName := ⟨RX5, "handOver", "(I)V"⟩
abbrev cX5_promiseLowest : ByteArray := prog_7_method_8_code
def yX5_promiseLowest : MethodName := ⟨RX5, "promiseLowest", "(I)V"⟩
abbrev cX5_moveTo : ByteArray := prog_7_method_9_code
def yX5_moveTo : MethodName := ⟨RX5, "moveTo", "(II)Z"⟩
abbrev cX5_findBarAfter : ByteArray := prog_7_method_10_code
def yX5_findBarAfter : MethodName := ⟨RX5, "findBarAfter", "(I)Z"⟩
abbrev cX5_metCount : ByteArray := prog_7_method_11_code
def yX5_metCount : MethodName := ⟨RX5, "metCount", "()I"⟩
abbrev cX5_leastWanting : ByteArray := prog_7_method_12_code
def yX5_leastWanting : MethodName := ⟨RX5, "leastWanting", "()I"⟩
abbrev cX5_barsFor : ByteArray := prog_7_method_13_code
def yX5_barsFor : MethodName := ⟨RX5, "barsFor", "(I)I"⟩
def RX6 : String := "BogForge$Parting"
def TX6 : u_T := fun k => match k with
  | 0 => ("BogForge$Parting", "shares", "[I", true)
  | _ => ("BogForge$Parting", "rests", "[J", true)
def tyX6 : Nat → FieldType := fun k => match k with
  | 0 => .array .int
  | _ => .array .long
abbrev wsX60 : List Cond := u_ws RX6 TX6 2
theorem nmX6 : ∀ a, a < 2 → ∀ b, b < 2 → a ≠ b → (TX6 a).2.1 ≠ (TX6 b).2.1 := by decide +kernel
theorem tyX6_ok : ∀ k, k < 2 → parseFieldDescriptor (TX6 k).2.2.1 = some (tyX6 k) := by decide +kernel
abbrev cX6_init : ByteArray := prog_8_method_1_code
def yX6_init : MethodName := ⟨RX6, "<init>", "()V"⟩
abbrev cX6_divide : ByteArray := prog_8_method_2_code
def yX6_divide : MethodName := ⟨RX6, "divide", "(I[I)Z"⟩
abbrev cX6_greatestRest : ByteArray := prog_8_method_3_code
def yX6_greatestRest : MethodName := ⟨RX6, "greatestRest", "(I)I"⟩
abbrev cX6_giveAllToFirst : ByteArray := prog_8_method_4_code
def yX6_giveAllToFirst : MethodName := ⟨RX6, "giveAllToFirst", "(I)V"⟩
abbrev cX6_carry : ByteArray := prog_8_method_5_code
def yX6_carry : MethodName := ⟨RX6, "carry", "(I[I[I)V"⟩
def RX7 : String := "BogForge$Pay"
def TX7 : u_T := fun k => match k with
  | 0 => ("BogForge$Pay", "bar", "I", true)
  | 1 => ("BogForge$Pay", "coins", "I", true)
  | 2 => ("BogForge$Pay", "madeIn", "I", true)
  | _ => ("BogForge$Pay", "shares", "[I", true)
def tyX7 : Nat → FieldType := fun k => match k with
  | 0 => .int
  | 1 => .int
  | 2 => .int
  | _ => .array .int
abbrev wsX70 : List Cond := u_ws RX7 TX7 4
theorem nmX7 : ∀ a, a < 4 → ∀ b, b < 4 → a ≠ b → (TX7 a).2.1 ≠ (TX7 b).2.1 := by decide +kernel
theorem tyX7_ok : ∀ k, k < 4 → parseFieldDescriptor (TX7 k).2.2.1 = some (tyX7 k) := by decide +kernel
abbrev cX7_init : ByteArray := prog_9_method_1_code
def yX7_init : MethodName := ⟨RX7, "<init>", "(III)V"⟩
def RX8 : String := "BogForge$Rights"
def TX8 : u_T := fun k => match k with
  | 0 => ("BogForge$Rights", "bogNumbers", "[I", true)
  | 1 => ("BogForge$Rights", "holders", "[I", true)
  | 2 => ("BogForge$Rights", "parts", "[I", true)
  | 3 => ("BogForge$Rights", "froms", "[I", true)
  | _ => ("BogForge$Rights", "size", "I", false)
def tyX8 : Nat → FieldType := fun k => match k with
  | 0 => .array .int
  | 1 => .array .int
  | 2 => .array .int
  | 3 => .array .int
  | _ => .int
abbrev wsX80 : List Cond := u_ws RX8 TX8 5
theorem nmX8 : ∀ a, a < 5 → ∀ b, b < 5 → a ≠ b → (TX8 a).2.1 ≠ (TX8 b).2.1 := by decide +kernel
theorem tyX8_ok : ∀ k, k < 5 → parseFieldDescriptor (TX8 k).2.2.1 = some (tyX8 k) := by decide +kernel
abbrev cX8_init : ByteArray := prog_10_method_1_code
def yX8_init : MethodName := ⟨RX8, "<init>", "()V"⟩
abbrev cX8_tell : ByteArray := prog_10_method_2_code
def yX8_tell : MethodName := ⟨RX8, "tell", "(IIII)Z"⟩
abbrev cX8_inForce : ByteArray := prog_10_method_3_code
def yX8_inForce : MethodName := ⟨RX8, "inForce", "(III)I"⟩
abbrev cX8_claimOf : ByteArray := prog_10_method_4_code
def yX8_claimOf : MethodName := ⟨RX8, "claimOf", "(ILBogForge$Bar;I)I"⟩
def RX9 : String := "BogForge$Tape"
def TX9 : u_T := fun k => match k with
  | 0 => ("BogForge$Tape", "bytes", "[I", true)
  | _ => ("BogForge$Tape", "length", "I", false)
def tyX9 : Nat → FieldType := fun k => match k with
  | 0 => .array .int
  | _ => .int
abbrev wsX90 : List Cond := u_ws RX9 TX9 2
theorem nmX9 : ∀ a, a < 2 → ∀ b, b < 2 → a ≠ b → (TX9 a).2.1 ≠ (TX9 b).2.1 := by decide +kernel
theorem tyX9_ok : ∀ k, k < 2 → parseFieldDescriptor (TX9 k).2.2.1 = some (tyX9 k) := by decide +kernel
abbrev cX9_init : ByteArray := prog_11_method_1_code
def yX9_init : MethodName := ⟨RX9, "<init>", "()V"⟩
abbrev cX9_bytesIn : ByteArray := prog_11_method_2_code
def yX9_bytesIn : MethodName := ⟨RX9, "bytesIn", "(I)I"⟩
abbrev cX9_append : ByteArray := prog_11_method_3_code
def yX9_append : MethodName := ⟨RX9, "append", "(I)V"⟩
abbrev cX9_byteAt : ByteArray := prog_11_method_4_code
def yX9_byteAt : MethodName := ⟨RX9, "byteAt", "(I)I"⟩
abbrev cX9_firstFault : ByteArray := prog_11_method_5_code
def yX9_firstFault : MethodName := ⟨RX9, "firstFault", "()I"⟩
abbrev cX9_after : ByteArray := prog_11_method_6_code
def yX9_after : MethodName := ⟨RX9, "after", "(II)I"⟩
abbrev cX9_afterDigit : ByteArray := prog_11_method_7_code
def yX9_afterDigit : MethodName := ⟨RX9, "afterDigit", "(II)I"⟩
abbrev cX9_isLetter : ByteArray := prog_11_method_8_code
def yX9_isLetter : MethodName := ⟨RX9, "isLetter", "(I)Z"⟩
abbrev cX9_isSign : ByteArray := prog_11_method_9_code
def yX9_isSign : MethodName := ⟨RX9, "isSign", "(I)Z"⟩
abbrev cX9_isDigit : ByteArray := prog_11_method_10_code
def yX9_isDigit : MethodName := ⟨RX9, "isDigit", "(I)Z"⟩
def RX10 : String := "BogForge$Yard"
def TX10 : u_T := fun k => match k with
  | 0 => ("BogForge$Yard", "ore", "[I", true)
  | _ => ("BogForge$Yard", "coal", "[I", true)
def tyX10 : Nat → FieldType := fun k => match k with
  | 0 => .array .int
  | _ => .array .int
abbrev wsX100 : List Cond := u_ws RX10 TX10 2
theorem nmX10 : ∀ a, a < 2 → ∀ b, b < 2 → a ≠ b → (TX10 a).2.1 ≠ (TX10 b).2.1 := by decide +kernel
theorem tyX10_ok : ∀ k, k < 2 → parseFieldDescriptor (TX10 k).2.2.1 = some (tyX10 k) := by decide +kernel
abbrev cX10_init : ByteArray := prog_12_method_1_code
def yX10_init : MethodName := ⟨RX10, "<init>", "()V"⟩
abbrev cX10_addOre : ByteArray := prog_12_method_2_code
def yX10_addOre : MethodName := ⟨RX10, "addOre", "(II)I"⟩
abbrev cX10_addCoal : ByteArray := prog_12_method_3_code
def yX10_addCoal : MethodName := ⟨RX10, "addCoal", "(II)I"⟩
def RX11 : String := "BogForge"
def TX11 : u_T := fun k => match k with
  | 0 => ("BogForge", "now", "I", false)
  | 1 => ("BogForge", "bogs", "[LBogForge$Bog;", true)
  | 2 => ("BogForge", "bogCount", "I", false)
  | 3 => ("BogForge", "yard", "LBogForge$Yard;", true)
  | 4 => ("BogForge", "tape", "LBogForge$Tape;", true)
  | 5 => ("BogForge", "founder", "LBogForge$Founder;", true)
  | 6 => ("BogForge", "hearth", "LBogForge$Hearth;", true)
  | 7 => ("BogForge", "bars", "[LBogForge$Bar;", true)
  | 8 => ("BogForge", "barCount", "I", false)
  | 9 => ("BogForge", "oreLost", "I", false)
  | 10 => ("BogForge", "rights", "LBogForge$Rights;", true)
  | 11 => ("BogForge", "pays", "[LBogForge$Pay;", true)
  | 12 => ("BogForge", "payCount", "I", false)
  | 13 => ("BogForge", "ledger", "LBogForge$Ledger;", true)
  | 14 => ("BogForge", "orders", "LBogForge$Orders;", true)
  | 15 => ("BogForge", "parting", "LBogForge$Parting;", true)
  | _ => ("BogForge", "claims", "[I", true)
def tyX11 : Nat → FieldType := fun k => match k with
  | 0 => .int
  | 1 => .array (.object "BogForge$Bog")
  | 2 => .int
  | 3 => .object "BogForge$Yard"
  | 4 => .object "BogForge$Tape"
  | 5 => .object "BogForge$Founder"
  | 6 => .object "BogForge$Hearth"
  | 7 => .array (.object "BogForge$Bar")
  | 8 => .int
  | 9 => .int
  | 10 => .object "BogForge$Rights"
  | 11 => .array (.object "BogForge$Pay")
  | 12 => .int
  | 13 => .object "BogForge$Ledger"
  | 14 => .object "BogForge$Orders"
  | 15 => .object "BogForge$Parting"
  | _ => .array .int
abbrev wsX110 : List Cond := u_ws RX11 TX11 17
theorem nmX11 : ∀ a, a < 17 → ∀ b, b < 17 → a ≠ b → (TX11 a).2.1 ≠ (TX11 b).2.1 := by decide +kernel
theorem tyX11_ok : ∀ k, k < 17 → parseFieldDescriptor (TX11 k).2.2.1 = some (tyX11 k) := by decide +kernel
abbrev cX11_init : ByteArray := prog_1_method_1_code
def yX11_init : MethodName := ⟨RX11, "<init>", "()V"⟩
abbrev cX11_bog : ByteArray := prog_1_method_2_code
def yX11_bog : MethodName := ⟨RX11, "bog", "(III)I"⟩
abbrev cX11_test : ByteArray := prog_1_method_3_code
def yX11_test : MethodName := ⟨RX11, "test", "(III)Z"⟩
abbrev cX11_dig : ByteArray := prog_1_method_4_code
def yX11_dig : MethodName := ⟨RX11, "dig", "(II)I"⟩
abbrev cX11_coal : ByteArray := prog_1_method_5_code
def yX11_coal : MethodName := ⟨RX11, "coal", "(II)I"⟩
abbrev cX11_year : ByteArray := prog_1_method_6_code
def yX11_year : MethodName := ⟨RX11, "year", "()I"⟩
abbrev cX11_ground : ByteArray := prog_1_method_7_code
def yX11_ground : MethodName := ⟨RX11, "ground", "(II)I"⟩
abbrev cX11_feed : ByteArray := prog_1_method_8_code
def yX11_feed : MethodName := ⟨RX11, "feed", "(IIIII)I"⟩
abbrev cX11_end : ByteArray := prog_1_method_9_code
def yX11_end : MethodName := ⟨RX11, "end", "(I)Z"⟩
abbrev cX11_fault : ByteArray := prog_1_method_10_code
def yX11_fault : MethodName := ⟨RX11, "fault", "()I"⟩
abbrev cX11_rules : ByteArray := prog_1_method_11_code
def yX11_rules : MethodName := ⟨RX11, "rules", "()Z"⟩
abbrev cX11_water : ByteArray := prog_1_method_12_code
def yX11_water : MethodName := ⟨RX11, "water", "(I)Z"⟩
abbrev cX11_gap : ByteArray := prog_1_method_13_code
def yX11_gap : MethodName := ⟨RX11, "gap", "(I)Z"⟩
abbrev cX11_charge : ByteArray := prog_1_method_14_code
def yX11_charge : MethodName := ⟨RX11, "charge", "(II)Z"⟩
abbrev cX11_blow : ByteArray := prog_1_method_15_code
def yX11_blow : MethodName := ⟨RX11, "blow", "(I)I"⟩
abbrev cX11_furnace : ByteArray := prog_1_method_16_code
def yX11_furnace : MethodName := ⟨RX11, "furnace", "(I)I"⟩
abbrev cX11_draw : ByteArray := prog_1_method_17_code
def yX11_draw : MethodName := ⟨RX11, "draw", "()I"⟩
abbrev cX11_ironInBloom : ByteArray := prog_1_method_18_code
def yX11_ironInBloom : MethodName := ⟨RX11, "ironInBloom", "(Z)I"⟩
abbrev cX11_forge : ByteArray := prog_1_method_19_code
def yX11_forge : MethodName := ⟨RX11, "forge", "(II)I"⟩
abbrev cX11_bar : ByteArray := prog_1_method_20_code
def yX11_bar : MethodName := ⟨RX11, "bar", "(II)I"⟩
abbrev cX11_part : ByteArray := prog_1_method_21_code
def yX11_part : MethodName := ⟨RX11, "part", "(II)I"⟩
abbrev cX11_burnt : ByteArray := prog_1_method_22_code
def yX11_burnt : MethodName := ⟨RX11, "burnt", "(II)I"⟩
abbrev cX11_right : ByteArray := prog_1_method_23_code
def yX11_right : MethodName := ⟨RX11, "right", "(IIII)Z"⟩
abbrev cX11_pay : ByteArray := prog_1_method_24_code
def yX11_pay : MethodName := ⟨RX11, "pay", "(II)I"⟩
abbrev cX11_again : ByteArray := prog_1_method_25_code
def yX11_again : MethodName := ⟨RX11, "again", "(I)I"⟩
abbrev cX11_line : ByteArray := prog_1_method_26_code
def yX11_line : MethodName := ⟨RX11, "line", "(II)I"⟩
abbrev cX11_coins : ByteArray := prog_1_method_27_code
def yX11_coins : MethodName := ⟨RX11, "coins", "(I)I"⟩
abbrev cX11_settle : ByteArray := prog_1_method_28_code
def yX11_settle : MethodName := ⟨RX11, "settle", "(I)I"⟩
abbrev cX11_order : ByteArray := prog_1_method_29_code
def yX11_order : MethodName := ⟨RX11, "order", "(II)I"⟩
abbrev cX11_clear : ByteArray := prog_1_method_30_code
def yX11_clear : MethodName := ⟨RX11, "clear", "()V"⟩
abbrev cX11_met : ByteArray := prog_1_method_31_code
def yX11_met : MethodName := ⟨RX11, "met", "(I)I"⟩
abbrev cX11_want : ByteArray := prog_1_method_32_code
def yX11_want : MethodName := ⟨RX11, "want", "()I"⟩
abbrev cX11_count : ByteArray := prog_1_method_33_code
def yX11_count : MethodName := ⟨RX11, "count", "(I)I"⟩
abbrev cX11_bogAt : ByteArray := prog_1_method_34_code
def yX11_bogAt : MethodName := ⟨RX11, "bogAt", "(I)LBogForge$Bog;"⟩
abbrev cX11_barAt : ByteArray := prog_1_method_35_code
def yX11_barAt : MethodName := ⟨RX11, "barAt", "(I)LBogForge$Bar;"⟩
abbrev cX11_within : ByteArray := prog_1_method_36_code
def yX11_within : MethodName := ⟨RX11, "within", "(III)Z"⟩
abbrev cX11_itemOf : ByteArray := prog_1_method_37_code
def yX11_itemOf : MethodName := ⟨RX11, "itemOf", "([II)I"⟩
abbrev cX11_sumOf : ByteArray := prog_1_method_38_code
def yX11_sumOf : MethodName := ⟨RX11, "sumOf", "([I)I"⟩
def RX12 : String := "BogForgeModel"
def TX12 : u_T := fun k => match k with
  | 0 => ("BogForgeModel", "now", "I", false)
  | 1 => ("BogForgeModel", "bogs", "I", false)
  | 2 => ("BogForgeModel", "bars", "I", false)
  | 3 => ("BogForgeModel", "pays", "I", false)
  | 4 => ("BogForgeModel", "lines", "I", false)
  | 5 => ("BogForgeModel", "orders", "I", false)
  | 6 => ("BogForgeModel", "rights", "I", false)
  | 7 => ("BogForgeModel", "goneOre", "I", false)
  | 8 => ("BogForgeModel", "ore", "[I", true)
  | 9 => ("BogForgeModel", "growth", "[I", true)
  | 10 => ("BogForgeModel", "rest", "[I", true)
  | 11 => ("BogForgeModel", "low", "[I", true)
  | 12 => ("BogForgeModel", "high", "[I", true)
  | 13 => ("BogForgeModel", "dug", "[I", true)
  | 14 => ("BogForgeModel", "yardOre", "[I", true)
  | 15 => ("BogForgeModel", "yardCoal", "[I", true)
  | 16 => ("BogForgeModel", "measure", "[J", true)
  | 17 => ("BogForgeModel", "share", "[I", true)
  | 18 => ("BogForgeModel", "more", "[Z", true)
  | 19 => ("BogForgeModel", "raw", "[I", true)
  | 20 => ("BogForgeModel", "charged", "[I", true)
  | 21 => ("BogForgeModel", "bloom", "[I", true)
  | 22 => ("BogForgeModel", "burnt", "I", false)
  | 23 => ("BogForgeModel", "heat", "I", false)
  | 24 => ("BogForgeModel", "minutes", "I", false)
  | 25 => ("BogForgeModel", "seen", "I", false)
  | 26 => ("BogForgeModel", "air", "I", false)
  | 27 => ("BogForgeModel", "scorch", "I", false)
  | 28 => ("BogForgeModel", "firstScorch", "I", false)
  | 29 => ("BogForgeModel", "water", "I", false)
  | 30 => ("BogForgeModel", "gap", "I", false)
  | 31 => ("BogForgeModel", "tape", "[I", true)
  | 32 => ("BogForgeModel", "size", "I", false)
  | 33 => ("BogForgeModel", "at", "I", false)
  | 34 => ("BogForgeModel", "ruleMany", "I", false)
  | 35 => ("BogForgeModel", "readMany", "I", false)
  | 36 => ("BogForgeModel", "ruleLetter", "[I", true)
  | 37 => ("BogForgeModel", "ruleSign", "[I", true)
  | 38 => ("BogForgeModel", "ruleNumber", "[I", true)
  | 39 => ("BogForgeModel", "ruleAir", "[I", true)
  | 40 => ("BogForgeModel", "readLetter", "[I", true)
  | 41 => ("BogForgeModel", "readSign", "[I", true)
  | 42 => ("BogForgeModel", "readNumber", "[I", true)
  | 43 => ("BogForgeModel", "readAir", "[I", true)
  | 44 => ("BogForgeModel", "barOre", "[I", true)
  | 45 => ("BogForgeModel", "barCoal", "[I", true)
  | 46 => ("BogForgeModel", "least", "[I", true)
  | 47 => ("BogForgeModel", "greatest", "[I", true)
  | 48 => ("BogForgeModel", "drawnSort", "[I", true)
  | 49 => ("BogForgeModel", "heats", "[I", true)
  | 50 => ("BogForgeModel", "drawnIn", "[I", true)
  | 51 => ("BogForgeModel", "rightBog", "[I", true)
  | 52 => ("BogForgeModel", "rightHolder", "[I", true)
  | 53 => ("BogForgeModel", "rightParts", "[I", true)
  | 54 => ("BogForgeModel", "rightFrom", "[I", true)
  | 55 => ("BogForgeModel", "payBar", "[I", true)
  | 56 => ("BogForgeModel", "payCoins", "[I", true)
  | 57 => ("BogForgeModel", "payYear", "[I", true)
  | 58 => ("BogForgeModel", "has", "[I", true)
  | 59 => ("BogForgeModel", "coins", "[I", true)
  | 60 => ("BogForgeModel", "lineYear", "[I", false)
  | 61 => ("BogForgeModel", "linePay", "[I", false)
  | 62 => ("BogForgeModel", "lineHolder", "[I", false)
  | 63 => ("BogForgeModel", "lineCoins", "[I", false)
  | 64 => ("BogForgeModel", "orderSort", "[I", true)
  | 65 => ("BogForgeModel", "orderLeast", "[I", true)
  | 66 => ("BogForgeModel", "given", "[I", true)
  | 67 => ("BogForgeModel", "barTo", "[I", true)
  | _ => ("BogForgeModel", "asked", "[Z", true)
def tyX12 : Nat → FieldType := fun k => match k with
  | 0 => .int
  | 1 => .int
  | 2 => .int
  | 3 => .int
  | 4 => .int
  | 5 => .int
  | 6 => .int
  | 7 => .int
  | 8 => .array .int
  | 9 => .array .int
  | 10 => .array .int
  | 11 => .array .int
  | 12 => .array .int
  | 13 => .array .int
  | 14 => .array .int
  | 15 => .array .int
  | 16 => .array .long
  | 17 => .array .int
  | 18 => .array .boolean
  | 19 => .array .int
  | 20 => .array .int
  | 21 => .array .int
  | 22 => .int
  | 23 => .int
  | 24 => .int
  | 25 => .int
  | 26 => .int
  | 27 => .int
  | 28 => .int
  | 29 => .int
  | 30 => .int
  | 31 => .array .int
  | 32 => .int
  | 33 => .int
  | 34 => .int
  | 35 => .int
  | 36 => .array .int
  | 37 => .array .int
  | 38 => .array .int
  | 39 => .array .int
  | 40 => .array .int
  | 41 => .array .int
  | 42 => .array .int
  | 43 => .array .int
  | 44 => .array .int
  | 45 => .array .int
  | 46 => .array .int
  | 47 => .array .int
  | 48 => .array .int
  | 49 => .array .int
  | 50 => .array .int
  | 51 => .array .int
  | 52 => .array .int
  | 53 => .array .int
  | 54 => .array .int
  | 55 => .array .int
  | 56 => .array .int
  | 57 => .array .int
  | 58 => .array .int
  | 59 => .array .int
  | 60 => .array .int
  | 61 => .array .int
  | 62 => .array .int
  | 63 => .array .int
  | 64 => .array .int
  | 65 => .array .int
  | 66 => .array .int
  | 67 => .array .int
  | _ => .array .boolean
abbrev wsX120 : List Cond := u_ws RX12 TX12 69
theorem nmX12 : ∀ a, a < 69 → ∀ b, b < 69 → a ≠ b → (TX12 a).2.1 ≠ (TX12 b).2.1 := by decide +kernel
theorem tyX12_ok : ∀ k, k < 69 → parseFieldDescriptor (TX12 k).2.2.1 = some (tyX12 k) := by decide +kernel
abbrev cX12_init : ByteArray := prog_14_method_1_code
def yX12_init : MethodName := ⟨RX12, "<init>", "()V"⟩
abbrev cX12_in : ByteArray := prog_14_method_2_code
def yX12_in : MethodName := ⟨RX12, "in", "(III)Z"⟩
abbrev cX12_isBog : ByteArray := prog_14_method_3_code
def yX12_isBog : MethodName := ⟨RX12, "isBog", "(I)Z"⟩
abbrev cX12_sum : ByteArray := prog_14_method_4_code
def yX12_sum : MethodName := ⟨RX12, "sum", "([I)I"⟩
abbrev cX12_partAmong : ByteArray := prog_14_method_5_code
def yX12_partAmong : MethodName := ⟨RX12, "partAmong", "(JI)V"⟩
abbrev cX12_partBy : ByteArray := prog_14_method_6_code
def yX12_partBy : MethodName := ⟨RX12, "partBy", "(I[I)V"⟩
abbrev cX12_bog : ByteArray := prog_14_method_7_code
def yX12_bog : MethodName := ⟨RX12, "bog", "(III)I"⟩
abbrev cX12_test : ByteArray := prog_14_method_8_code
def yX12_test : MethodName := ⟨RX12, "test", "(III)Z"⟩
abbrev cX12_dig : ByteArray := prog_14_method_9_code
def yX12_dig : MethodName := ⟨RX12, "dig", "(II)I"⟩
abbrev cX12_coal : ByteArray := prog_14_method_10_code
def yX12_coal : MethodName := ⟨RX12, "coal", "(II)I"⟩
abbrev cX12_year : ByteArray := prog_14_method_11_code
def yX12_year : MethodName := ⟨RX12, "year", "()I"⟩
abbrev cX12_water : ByteArray := prog_14_method_12_code
def yX12_water : MethodName := ⟨RX12, "water", "(I)Z"⟩
abbrev cX12_gap : ByteArray := prog_14_method_13_code
def yX12_gap : MethodName := ⟨RX12, "gap", "(I)Z"⟩
abbrev cX12_charge : ByteArray := prog_14_method_14_code
def yX12_charge : MethodName := ⟨RX12, "charge", "(II)Z"⟩
abbrev cX12_minute : ByteArray := prog_14_method_15_code
def yX12_minute : MethodName := ⟨RX12, "minute", "()V"⟩
abbrev cX12_blow : ByteArray := prog_14_method_16_code
def yX12_blow : MethodName := ⟨RX12, "blow", "(I)I"⟩
abbrev cX12_furnace : ByteArray := prog_14_method_17_code
def yX12_furnace : MethodName := ⟨RX12, "furnace", "(I)I"⟩
abbrev cX12_byteOf : ByteArray := prog_14_method_18_code
def yX12_byteOf : MethodName := ⟨RX12, "byteOf", "(IIIIII)I"⟩
abbrev cX12_feed : ByteArray := prog_14_method_19_code
def yX12_feed : MethodName := ⟨RX12, "feed", "(IIIII)I"⟩
abbrev cX12_end : ByteArray := prog_14_method_20_code
def yX12_end : MethodName := ⟨RX12, "end", "(I)Z"⟩
abbrev cX12_look : ByteArray := prog_14_method_21_code
def yX12_look : MethodName := ⟨RX12, "look", "()I"⟩
abbrev cX12_isDigit : ByteArray := prog_14_method_22_code
def yX12_isDigit : MethodName := ⟨RX12, "isDigit", "(I)Z"⟩
abbrev cX12_clause : ByteArray := prog_14_method_23_code
def yX12_clause : MethodName := ⟨RX12, "clause", "()Z"⟩
abbrev cX12_fault : ByteArray := prog_14_method_24_code
def yX12_fault : MethodName := ⟨RX12, "fault", "()I"⟩
abbrev cX12_rules : ByteArray := prog_14_method_25_code
def yX12_rules : MethodName := ⟨RX12, "rules", "()Z"⟩
abbrev cX12_holds : ByteArray := prog_14_method_26_code
def yX12_holds : MethodName := ⟨RX12, "holds", "(I)Z"⟩
abbrev cX12_draw : ByteArray := prog_14_method_27_code
def yX12_draw : MethodName := ⟨RX12, "draw", "()I"⟩
abbrev cX12_isBar : ByteArray := prog_14_method_28_code
def yX12_isBar : MethodName := ⟨RX12, "isBar", "(I)Z"⟩
abbrev cX12_sortOf : ByteArray := prog_14_method_29_code
def yX12_sortOf : MethodName := ⟨RX12, "sortOf", "(I)I"⟩
abbrev cX12_forge : ByteArray := prog_14_method_30_code
def yX12_forge : MethodName := ⟨RX12, "forge", "(II)I"⟩
abbrev cX12_bar : ByteArray := prog_14_method_31_code
def yX12_bar : MethodName := ⟨RX12, "bar", "(II)I"⟩
abbrev cX12_part : ByteArray := prog_14_method_32_code
def yX12_part : MethodName := ⟨RX12, "part", "(II)I"⟩
abbrev cX12_burnt : ByteArray := prog_14_method_33_code
def yX12_burnt : MethodName := ⟨RX12, "burnt", "(II)I"⟩
abbrev cX12_right : ByteArray := prog_14_method_34_code
def yX12_right : MethodName := ⟨RX12, "right", "(IIII)Z"⟩
abbrev cX12_inForce : ByteArray := prog_14_method_35_code
def yX12_inForce : MethodName := ⟨RX12, "inForce", "(III)I"⟩
abbrev cX12_longer : ByteArray := prog_14_method_36_code
def yX12_longer : MethodName := ⟨RX12, "longer", "([I)[I"⟩
abbrev cX12_settle : ByteArray := prog_14_method_37_code
def yX12_settle : MethodName := ⟨RX12, "settle", "(I)I"⟩
abbrev cX12_pay : ByteArray := prog_14_method_38_code
def yX12_pay : MethodName := ⟨RX12, "pay", "(II)I"⟩
abbrev cX12_again : ByteArray := prog_14_method_39_code
def yX12_again : MethodName := ⟨RX12, "again", "(I)I"⟩
abbrev cX12_line : ByteArray := prog_14_method_40_code
def yX12_line : MethodName := ⟨RX12, "line", "(II)I"⟩
abbrev cX12_coins : ByteArray := prog_14_method_41_code
def yX12_coins : MethodName := ⟨RX12, "coins", "(I)I"⟩
abbrev cX12_order : ByteArray := prog_14_method_42_code
def yX12_order : MethodName := ⟨RX12, "order", "(II)I"⟩
abbrev cX12_clear : ByteArray := prog_14_method_43_code
def yX12_clear : MethodName := ⟨RX12, "clear", "()V"⟩
abbrev cX12_fits : ByteArray := prog_14_method_44_code
def yX12_fits : MethodName := ⟨RX12, "fits", "(II)Z"⟩
abbrev cX12_finds : ByteArray := prog_14_method_45_code
def yX12_finds : MethodName := ⟨RX12, "finds", "(II)Z"⟩
abbrev cX12_most : ByteArray := prog_14_method_46_code
def yX12_most : MethodName := ⟨RX12, "most", "(I)I"⟩
abbrev cX12_isGiven : ByteArray := prog_14_method_47_code
def yX12_isGiven : MethodName := ⟨RX12, "isGiven", "(II)Z"⟩
abbrev cX12_giveAll : ByteArray := prog_14_method_48_code
def yX12_giveAll : MethodName := ⟨RX12, "giveAll", "()I"⟩
abbrev cX12_met : ByteArray := prog_14_method_49_code
def yX12_met : MethodName := ⟨RX12, "met", "(I)I"⟩
abbrev cX12_couldHave : ByteArray := prog_14_method_50_code
def yX12_couldHave : MethodName := ⟨RX12, "couldHave", "(I)I"⟩
abbrev cX12_want : ByteArray := prog_14_method_51_code
def yX12_want : MethodName := ⟨RX12, "want", "()I"⟩
abbrev cX12_ground : ByteArray := prog_14_method_52_code
def yX12_ground : MethodName := ⟨RX12, "ground", "(II)I"⟩
abbrev cX12_count : ByteArray := prog_14_method_53_code
def yX12_count : MethodName := ⟨RX12, "count", "(I)I"⟩
def RJ6 : String := "java/lang/Integer"
def TJ6 : u_T := fun k => match k with
  | _ => ("", "", "", false)
def tyJ6 : Nat → FieldType := fun k => match k with
  | _ => .int
abbrev wsJ60 : List Cond := u_ws RJ6 TJ6 0
theorem nmJ6 : ∀ a, a < 0 → ∀ b, b < 0 → a ≠ b → (TJ6 a).2.1 ≠ (TJ6 b).2.1 := by decide +kernel
theorem tyJ6_ok : ∀ k, k < 0 → parseFieldDescriptor (TJ6 k).2.2.1 = some (tyJ6 k) := by decide +kernel
abbrev cJ6_bitCount_0f7a4 : ByteArray := prog_16_method_49_code
def yJ6_bitCount_0f7a4 : MethodName := ⟨RJ6, "bitCount", "(I)I"⟩
def RJ9 : String := "java/lang/Math"
def TJ9 : u_T := fun k => match k with
  | _ => ("", "", "", false)
def tyJ9 : Nat → FieldType := fun k => match k with
  | _ => .int
abbrev wsJ90 : List Cond := u_ws RJ9 TJ9 0
theorem nmJ9 : ∀ a, a < 0 → ∀ b, b < 0 → a ≠ b → (TJ9 a).2.1 ≠ (TJ9 b).2.1 := by decide +kernel
theorem tyJ9_ok : ∀ k, k < 0 → parseFieldDescriptor (TJ9 k).2.2.1 = some (tyJ9 k) := by decide +kernel
abbrev cJ9_max_7cf53 : ByteArray := prog_17_method_65_code
def yJ9_max_7cf53 : MethodName := ⟨RJ9, "max", "(II)I"⟩
abbrev cJ9_min_7cf53 : ByteArray := prog_17_method_69_code
def yJ9_min_7cf53 : MethodName := ⟨RJ9, "min", "(II)I"⟩
def RJ10 : String := "java/lang/System"
def TJ10 : u_T := fun k => match k with
  | _ => ("", "", "", false)
def tyJ10 : Nat → FieldType := fun k => match k with
  | _ => .int
abbrev wsJ100 : List Cond := u_ws RJ10 TJ10 0
theorem nmJ10 : ∀ a, a < 0 → ∀ b, b < 0 → a ≠ b → (TJ10 a).2.1 ≠ (TJ10 b).2.1 := by decide +kernel
theorem tyJ10_ok : ∀ k, k < 0 → parseFieldDescriptor (TJ10 k).2.2.1 = some (tyJ10 k) := by decide +kernel
def RJ7 : String := "java/util/Arrays"
def TJ7 : u_T := fun k => match k with
  | _ => ("", "", "", false)
def tyJ7 : Nat → FieldType := fun k => match k with
  | _ => .int
abbrev wsJ70 : List Cond := u_ws RJ7 TJ7 0
theorem nmJ7 : ∀ a, a < 0 → ∀ b, b < 0 → a ≠ b → (TJ7 a).2.1 ≠ (TJ7 b).2.1 := by decide +kernel
theorem tyJ7_ok : ∀ k, k < 0 → parseFieldDescriptor (TJ7 k).2.2.1 = some (tyJ7 k) := by decide +kernel
abbrev cJ7_fill_53178 : ByteArray := prog_19_method_103_code
def yJ7_fill_53178 : MethodName := ⟨RJ7, "fill", "([II)V"⟩
abbrev cJ7_copyOf_59c91 : ByteArray := prog_19_method_123_code
def yJ7_copyOf_59c91 : MethodName := ⟨RJ7, "copyOf", "([II)[I"⟩
def RL : String := "BogForgeLaw"
abbrev cL_law : ByteArray := code
def yL_law : MethodName := ⟨RL, "law", "([I)Z"⟩
abbrev vwCl : List vw_C := [(RX0, TX0, 7), (RX1, TX1, 6), (RX2, TX2, 5), (RX3, TX3, 14), (RX4, TX4, 6), (RX5, TX5, 10), (RX6, TX6, 2), (RX7, TX7, 4), (RX8, TX8, 5), (RX9, TX9, 2), (RX10, TX10, 2), (RX11, TX11, 17), (RX12, TX12, 69)]
