section
/-- a private method of a class that the tables say can be made, by its rows of tables_1 -/
def lw_okq (q : MethodName × Nat) : Prop := (q.1.cls ≠ "java/lang/invoke/MethodHandle" ∧ q.1.cls ≠ "java/lang/invoke/VarHandle") ∧ Cond.instantiable q.1.cls q.2 ∈ tables_1 ∧ Cond.privateMethod q.1 ∈ tables_1 ∧ Cond.instanceMethod q.1 ∈ tables_1
theorem lw_p0 : lw_okq (⟨"BogForge", "bogAt", "(I)LBogForge$Bog;"⟩, 17) := ⟨⟨by decide +kernel, by decide +kernel⟩, List.mem_of_getElem? (i := 19) (by decide +kernel), List.mem_of_getElem? (i := 356) (by decide +kernel), List.mem_of_getElem? (i := 357) (by decide +kernel)⟩
theorem lw_p1 : lw_okq (⟨"BogForge$Founder", "open", "(I)V"⟩, 5) := ⟨⟨by decide +kernel, by decide +kernel⟩, List.mem_of_getElem? (i := 60) (by decide +kernel), List.mem_of_getElem? (i := 467) (by decide +kernel), List.mem_of_getElem? (i := 468) (by decide +kernel)⟩
theorem lw_p2 : lw_okq (⟨"BogForge$Founder", "learnWithin", "(IIZ)V"⟩, 5) := ⟨⟨by decide +kernel, by decide +kernel⟩, List.mem_of_getElem? (i := 60) (by decide +kernel), List.mem_of_getElem? (i := 471) (by decide +kernel), List.mem_of_getElem? (i := 472) (by decide +kernel)⟩
theorem lw_p3 : lw_okq (⟨"BogForge$Parting", "greatestRest", "(I)I"⟩, 2) := ⟨⟨by decide +kernel, by decide +kernel⟩, List.mem_of_getElem? (i := 247) (by decide +kernel), List.mem_of_getElem? (i := 502) (by decide +kernel), List.mem_of_getElem? (i := 503) (by decide +kernel)⟩
theorem lw_p4 : lw_okq (⟨"BogForge$Hearth", "reduce", "(ILBogForge$Parting;)V"⟩, 14) := ⟨⟨by decide +kernel, by decide +kernel⟩, List.mem_of_getElem? (i := 82) (by decide +kernel), List.mem_of_getElem? (i := 527) (by decide +kernel), List.mem_of_getElem? (i := 528) (by decide +kernel)⟩
theorem lw_p5 : lw_okq (⟨"BogForge$Hearth", "noteScorch", "()V"⟩, 14) := ⟨⟨by decide +kernel, by decide +kernel⟩, List.mem_of_getElem? (i := 82) (by decide +kernel), List.mem_of_getElem? (i := 532) (by decide +kernel), List.mem_of_getElem? (i := 533) (by decide +kernel)⟩
theorem lw_p6 : lw_okq (⟨"BogForge", "ironInBloom", "(Z)I"⟩, 17) := ⟨⟨by decide +kernel, by decide +kernel⟩, List.mem_of_getElem? (i := 19) (by decide +kernel), List.mem_of_getElem? (i := 583) (by decide +kernel), List.mem_of_getElem? (i := 584) (by decide +kernel)⟩
theorem lw_p7 : lw_okq (⟨"BogForge", "barAt", "(I)LBogForge$Bar;"⟩, 17) := ⟨⟨by decide +kernel, by decide +kernel⟩, List.mem_of_getElem? (i := 19) (by decide +kernel), List.mem_of_getElem? (i := 604) (by decide +kernel), List.mem_of_getElem? (i := 605) (by decide +kernel)⟩
theorem lw_p8 : lw_okq (⟨"BogForge", "settle", "(I)I"⟩, 17) := ⟨⟨by decide +kernel, by decide +kernel⟩, List.mem_of_getElem? (i := 19) (by decide +kernel), List.mem_of_getElem? (i := 671) (by decide +kernel), List.mem_of_getElem? (i := 672) (by decide +kernel)⟩
theorem lw_p9 : lw_okq (⟨"BogForge$Rights", "inForce", "(III)I"⟩, 5) := ⟨⟨by decide +kernel, by decide +kernel⟩, List.mem_of_getElem? (i := 152) (by decide +kernel), List.mem_of_getElem? (i := 679) (by decide +kernel), List.mem_of_getElem? (i := 680) (by decide +kernel)⟩
theorem lw_p10 : lw_okq (⟨"BogForge$Ledger", "grow", "()V"⟩, 6) := ⟨⟨by decide +kernel, by decide +kernel⟩, List.mem_of_getElem? (i := 176) (by decide +kernel), List.mem_of_getElem? (i := 692) (by decide +kernel), List.mem_of_getElem? (i := 693) (by decide +kernel)⟩
theorem lw_p11 : lw_okq (⟨"BogForge$Orders", "ordersThatFit", "(II)I"⟩, 10) := ⟨⟨by decide +kernel, by decide +kernel⟩, List.mem_of_getElem? (i := 207) (by decide +kernel), List.mem_of_getElem? (i := 747) (by decide +kernel), List.mem_of_getElem? (i := 748) (by decide +kernel)⟩
theorem lw_p12 : lw_okq (⟨"BogForge$Orders", "findBar", "(I)Z"⟩, 10) := ⟨⟨by decide +kernel, by decide +kernel⟩, List.mem_of_getElem? (i := 207) (by decide +kernel), List.mem_of_getElem? (i := 752) (by decide +kernel), List.mem_of_getElem? (i := 753) (by decide +kernel)⟩
theorem lw_p13 : lw_okq (⟨"BogForge$Orders", "handOver", "(I)V"⟩, 10) := ⟨⟨by decide +kernel, by decide +kernel⟩, List.mem_of_getElem? (i := 207) (by decide +kernel), List.mem_of_getElem? (i := 756) (by decide +kernel), List.mem_of_getElem? (i := 757) (by decide +kernel)⟩
theorem lw_p14 : lw_okq (⟨"BogForge$Orders", "lowerBar", "(I)V"⟩, 10) := ⟨⟨by decide +kernel, by decide +kernel⟩, List.mem_of_getElem? (i := 207) (by decide +kernel), List.mem_of_getElem? (i := 760) (by decide +kernel), List.mem_of_getElem? (i := 761) (by decide +kernel)⟩
theorem lw_p15 : lw_okq (⟨"BogForge$Orders", "swapTo", "(II)Z"⟩, 10) := ⟨⟨by decide +kernel, by decide +kernel⟩, List.mem_of_getElem? (i := 207) (by decide +kernel), List.mem_of_getElem? (i := 764) (by decide +kernel), List.mem_of_getElem? (i := 765) (by decide +kernel)⟩
def lw_privs_1 : List (MethodName × Nat) := [(⟨"BogForge", "bogAt", "(I)LBogForge$Bog;"⟩, 17), (⟨"BogForge$Founder", "open", "(I)V"⟩, 5), (⟨"BogForge$Founder", "learnWithin", "(IIZ)V"⟩, 5), (⟨"BogForge$Parting", "greatestRest", "(I)I"⟩, 2), (⟨"BogForge$Hearth", "reduce", "(ILBogForge$Parting;)V"⟩, 14), (⟨"BogForge$Hearth", "noteScorch", "()V"⟩, 14), (⟨"BogForge", "ironInBloom", "(Z)I"⟩, 17), (⟨"BogForge", "barAt", "(I)LBogForge$Bar;"⟩, 17), (⟨"BogForge", "settle", "(I)I"⟩, 17), (⟨"BogForge$Rights", "inForce", "(III)I"⟩, 5), (⟨"BogForge$Ledger", "grow", "()V"⟩, 6), (⟨"BogForge$Orders", "ordersThatFit", "(II)I"⟩, 10), (⟨"BogForge$Orders", "findBar", "(I)Z"⟩, 10), (⟨"BogForge$Orders", "handOver", "(I)V"⟩, 10), (⟨"BogForge$Orders", "lowerBar", "(I)V"⟩, 10), (⟨"BogForge$Orders", "swapTo", "(II)Z"⟩, 10)]
theorem lw_r1 : ∀ q ∈ lw_privs_1, lw_okq q := List.forall_mem_cons.mpr ⟨lw_p0, List.forall_mem_cons.mpr ⟨lw_p1, List.forall_mem_cons.mpr ⟨lw_p2, List.forall_mem_cons.mpr ⟨lw_p3, List.forall_mem_cons.mpr ⟨lw_p4, List.forall_mem_cons.mpr ⟨lw_p5, List.forall_mem_cons.mpr ⟨lw_p6, List.forall_mem_cons.mpr ⟨lw_p7, List.forall_mem_cons.mpr ⟨lw_p8, List.forall_mem_cons.mpr ⟨lw_p9, List.forall_mem_cons.mpr ⟨lw_p10, List.forall_mem_cons.mpr ⟨lw_p11, List.forall_mem_cons.mpr ⟨lw_p12, List.forall_mem_cons.mpr ⟨lw_p13, List.forall_mem_cons.mpr ⟨lw_p14, List.forall_mem_cons.mpr ⟨lw_p15, fun _ h => absurd h List.not_mem_nil⟩⟩⟩⟩⟩⟩⟩⟩⟩⟩⟩⟩⟩⟩⟩⟩
theorem lw_p16 : lw_okq (⟨"BogForge$Orders", "barsFor", "(I)I"⟩, 10) := ⟨⟨by decide +kernel, by decide +kernel⟩, List.mem_of_getElem? (i := 207) (by decide +kernel), List.mem_of_getElem? (i := 777) (by decide +kernel), List.mem_of_getElem? (i := 778) (by decide +kernel)⟩
theorem lw_p17 : lw_okq (⟨"BogForgeModel", "isBog", "(I)Z"⟩, 69) := ⟨⟨by decide +kernel, by decide +kernel⟩, List.mem_of_getElem? (i := 795) (by decide +kernel), List.mem_of_getElem? (i := 1021) (by decide +kernel), List.mem_of_getElem? (i := 1022) (by decide +kernel)⟩
theorem lw_p18 : lw_okq (⟨"BogForgeModel", "partBy", "(I[I)V"⟩, 69) := ⟨⟨by decide +kernel, by decide +kernel⟩, List.mem_of_getElem? (i := 795) (by decide +kernel), List.mem_of_getElem? (i := 1055) (by decide +kernel), List.mem_of_getElem? (i := 1056) (by decide +kernel)⟩
theorem lw_p19 : lw_okq (⟨"BogForgeModel", "partAmong", "(JI)V"⟩, 69) := ⟨⟨by decide +kernel, by decide +kernel⟩, List.mem_of_getElem? (i := 795) (by decide +kernel), List.mem_of_getElem? (i := 1059) (by decide +kernel), List.mem_of_getElem? (i := 1060) (by decide +kernel)⟩
theorem lw_p20 : lw_okq (⟨"BogForgeModel", "minute", "()V"⟩, 69) := ⟨⟨by decide +kernel, by decide +kernel⟩, List.mem_of_getElem? (i := 795) (by decide +kernel), List.mem_of_getElem? (i := 1067) (by decide +kernel), List.mem_of_getElem? (i := 1068) (by decide +kernel)⟩
theorem lw_p21 : lw_okq (⟨"BogForgeModel", "holds", "(I)Z"⟩, 69) := ⟨⟨by decide +kernel, by decide +kernel⟩, List.mem_of_getElem? (i := 795) (by decide +kernel), List.mem_of_getElem? (i := 1071) (by decide +kernel), List.mem_of_getElem? (i := 1072) (by decide +kernel)⟩
theorem lw_p22 : lw_okq (⟨"BogForgeModel", "look", "()I"⟩, 69) := ⟨⟨by decide +kernel, by decide +kernel⟩, List.mem_of_getElem? (i := 795) (by decide +kernel), List.mem_of_getElem? (i := 1094) (by decide +kernel), List.mem_of_getElem? (i := 1095) (by decide +kernel)⟩
theorem lw_p23 : lw_okq (⟨"BogForgeModel", "clause", "()Z"⟩, 69) := ⟨⟨by decide +kernel, by decide +kernel⟩, List.mem_of_getElem? (i := 795) (by decide +kernel), List.mem_of_getElem? (i := 1098) (by decide +kernel), List.mem_of_getElem? (i := 1099) (by decide +kernel)⟩
theorem lw_p24 : lw_okq (⟨"BogForgeModel", "isBar", "(I)Z"⟩, 69) := ⟨⟨by decide +kernel, by decide +kernel⟩, List.mem_of_getElem? (i := 795) (by decide +kernel), List.mem_of_getElem? (i := 1120) (by decide +kernel), List.mem_of_getElem? (i := 1121) (by decide +kernel)⟩
theorem lw_p25 : lw_okq (⟨"BogForgeModel", "sortOf", "(I)I"⟩, 69) := ⟨⟨by decide +kernel, by decide +kernel⟩, List.mem_of_getElem? (i := 795) (by decide +kernel), List.mem_of_getElem? (i := 1127) (by decide +kernel), List.mem_of_getElem? (i := 1128) (by decide +kernel)⟩
theorem lw_p26 : lw_okq (⟨"BogForgeModel", "settle", "(I)I"⟩, 69) := ⟨⟨by decide +kernel, by decide +kernel⟩, List.mem_of_getElem? (i := 795) (by decide +kernel), List.mem_of_getElem? (i := 1151) (by decide +kernel), List.mem_of_getElem? (i := 1152) (by decide +kernel)⟩
theorem lw_p27 : lw_okq (⟨"BogForgeModel", "inForce", "(III)I"⟩, 69) := ⟨⟨by decide +kernel, by decide +kernel⟩, List.mem_of_getElem? (i := 795) (by decide +kernel), List.mem_of_getElem? (i := 1155) (by decide +kernel), List.mem_of_getElem? (i := 1156) (by decide +kernel)⟩
theorem lw_p28 : lw_okq (⟨"BogForgeModel", "giveAll", "()I"⟩, 69) := ⟨⟨by decide +kernel, by decide +kernel⟩, List.mem_of_getElem? (i := 795) (by decide +kernel), List.mem_of_getElem? (i := 1186) (by decide +kernel), List.mem_of_getElem? (i := 1187) (by decide +kernel)⟩
theorem lw_p29 : lw_okq (⟨"BogForgeModel", "most", "(I)I"⟩, 69) := ⟨⟨by decide +kernel, by decide +kernel⟩, List.mem_of_getElem? (i := 795) (by decide +kernel), List.mem_of_getElem? (i := 1190) (by decide +kernel), List.mem_of_getElem? (i := 1191) (by decide +kernel)⟩
theorem lw_p30 : lw_okq (⟨"BogForgeModel", "finds", "(II)Z"⟩, 69) := ⟨⟨by decide +kernel, by decide +kernel⟩, List.mem_of_getElem? (i := 795) (by decide +kernel), List.mem_of_getElem? (i := 1194) (by decide +kernel), List.mem_of_getElem? (i := 1195) (by decide +kernel)⟩
theorem lw_p31 : lw_okq (⟨"BogForgeModel", "fits", "(II)Z"⟩, 69) := ⟨⟨by decide +kernel, by decide +kernel⟩, List.mem_of_getElem? (i := 795) (by decide +kernel), List.mem_of_getElem? (i := 1198) (by decide +kernel), List.mem_of_getElem? (i := 1199) (by decide +kernel)⟩
def lw_privs_2 : List (MethodName × Nat) := [(⟨"BogForge$Orders", "barsFor", "(I)I"⟩, 10), (⟨"BogForgeModel", "isBog", "(I)Z"⟩, 69), (⟨"BogForgeModel", "partBy", "(I[I)V"⟩, 69), (⟨"BogForgeModel", "partAmong", "(JI)V"⟩, 69), (⟨"BogForgeModel", "minute", "()V"⟩, 69), (⟨"BogForgeModel", "holds", "(I)Z"⟩, 69), (⟨"BogForgeModel", "look", "()I"⟩, 69), (⟨"BogForgeModel", "clause", "()Z"⟩, 69), (⟨"BogForgeModel", "isBar", "(I)Z"⟩, 69), (⟨"BogForgeModel", "sortOf", "(I)I"⟩, 69), (⟨"BogForgeModel", "settle", "(I)I"⟩, 69), (⟨"BogForgeModel", "inForce", "(III)I"⟩, 69), (⟨"BogForgeModel", "giveAll", "()I"⟩, 69), (⟨"BogForgeModel", "most", "(I)I"⟩, 69), (⟨"BogForgeModel", "finds", "(II)Z"⟩, 69), (⟨"BogForgeModel", "fits", "(II)Z"⟩, 69)]
theorem lw_r2 : ∀ q ∈ lw_privs_2, lw_okq q := List.forall_mem_cons.mpr ⟨lw_p16, List.forall_mem_cons.mpr ⟨lw_p17, List.forall_mem_cons.mpr ⟨lw_p18, List.forall_mem_cons.mpr ⟨lw_p19, List.forall_mem_cons.mpr ⟨lw_p20, List.forall_mem_cons.mpr ⟨lw_p21, List.forall_mem_cons.mpr ⟨lw_p22, List.forall_mem_cons.mpr ⟨lw_p23, List.forall_mem_cons.mpr ⟨lw_p24, List.forall_mem_cons.mpr ⟨lw_p25, List.forall_mem_cons.mpr ⟨lw_p26, List.forall_mem_cons.mpr ⟨lw_p27, List.forall_mem_cons.mpr ⟨lw_p28, List.forall_mem_cons.mpr ⟨lw_p29, List.forall_mem_cons.mpr ⟨lw_p30, List.forall_mem_cons.mpr ⟨lw_p31, fun _ h => absurd h List.not_mem_nil⟩⟩⟩⟩⟩⟩⟩⟩⟩⟩⟩⟩⟩⟩⟩⟩
theorem lw_p32 : lw_okq (⟨"BogForgeModel", "isGiven", "(II)Z"⟩, 69) := ⟨⟨by decide +kernel, by decide +kernel⟩, List.mem_of_getElem? (i := 795) (by decide +kernel), List.mem_of_getElem? (i := 1202) (by decide +kernel), List.mem_of_getElem? (i := 1203) (by decide +kernel)⟩
theorem lw_p33 : lw_okq (⟨"BogForgeModel", "couldHave", "(I)I"⟩, 69) := ⟨⟨by decide +kernel, by decide +kernel⟩, List.mem_of_getElem? (i := 795) (by decide +kernel), List.mem_of_getElem? (i := 1211) (by decide +kernel), List.mem_of_getElem? (i := 1212) (by decide +kernel)⟩
def lw_privs_3 : List (MethodName × Nat) := [(⟨"BogForgeModel", "isGiven", "(II)Z"⟩, 69), (⟨"BogForgeModel", "couldHave", "(I)I"⟩, 69)]
theorem lw_r3 : ∀ q ∈ lw_privs_3, lw_okq q := List.forall_mem_cons.mpr ⟨lw_p32, List.forall_mem_cons.mpr ⟨lw_p33, fun _ h => absurd h List.not_mem_nil⟩⟩
def lw_privs : List (MethodName × Nat) := lw_privs_1 ++ (lw_privs_2 ++ (lw_privs_3))
def lw_tbl : List Cond := k2_sels lw_privs ++ tables_1
theorem lw_privs_ok : ∀ q ∈ lw_privs, lw_okq q := by
  show ∀ q ∈ lw_privs_1 ++ (lw_privs_2 ++ (lw_privs_3)), lw_okq q
  exact List.forall_mem_append.mpr ⟨lw_r1, List.forall_mem_append.mpr ⟨lw_r2, lw_r3⟩⟩
def RX0 : String := "BogForge$Bar"
def TX0 : u_T := fun k => match k with
  | 0 => ("BogForge$Bar", "ore", "[I", true)
  | 1 => ("BogForge$Bar", "coal", "[I", true)
  | 2 => ("BogForge$Bar", "drawnSort", "I", true)
  | 3 => ("BogForge$Bar", "drawnIn", "I", true)
  | 4 => ("BogForge$Bar", "least", "I", false)
  | 5 => ("BogForge$Bar", "greatest", "I", false)
  | _ => ("BogForge$Bar", "heats", "I", false)
def tyX0 : Nat → FieldType := fun k => match k with
  | 0 => .array .int
  | 1 => .array .int
  | 2 => .int
  | 3 => .int
  | 4 => .int
  | 5 => .int
  | _ => .int
abbrev wsX00 : List Cond := u_ws RX0 TX0 7
theorem nmX0 : ∀ a, a < 7 → ∀ b, b < 7 → a ≠ b → (TX0 a).2.1 ≠ (TX0 b).2.1 := by decide +kernel
theorem tyX0_ok : ∀ k, k < 7 → parseFieldDescriptor (TX0 k).2.2.1 = some (tyX0 k) := by decide +kernel
abbrev cX0_init : ByteArray := prog_2_method_1_code
def yX0_init : MethodName := ⟨RX0, "<init>", "(II)V"⟩
abbrev cX0_setIron : ByteArray := prog_2_method_2_code
def yX0_setIron : MethodName := ⟨RX0, "setIron", "(II)V"⟩
abbrev cX0_heatOnce : ByteArray := prog_2_method_3_code
def yX0_heatOnce : MethodName := ⟨RX0, "heatOnce", "()V"⟩
abbrev cX0_sortNow : ByteArray := prog_2_method_4_code
def yX0_sortNow : MethodName := ⟨RX0, "sortNow", "()I"⟩
def RX1 : String := "BogForge$Bog"
def TX1 : u_T := fun k => match k with
  | 0 => ("BogForge$Bog", "ore", "I", false)
  | 1 => ("BogForge$Bog", "growth", "I", true)
  | 2 => ("BogForge$Bog", "rest", "I", true)
  | 3 => ("BogForge$Bog", "lower", "I", false)
  | 4 => ("BogForge$Bog", "upper", "I", false)
  | _ => ("BogForge$Bog", "lastDug", "I", false)
def tyX1 : Nat → FieldType := fun k => match k with
  | 0 => .int
  | 1 => .int
  | 2 => .int
  | 3 => .int
  | 4 => .int
  | _ => .int
abbrev wsX10 : List Cond := u_ws RX1 TX1 6
theorem nmX1 : ∀ a, a < 6 → ∀ b, b < 6 → a ≠ b → (TX1 a).2.1 ≠ (TX1 b).2.1 := by decide +kernel
theorem tyX1_ok : ∀ k, k < 6 → parseFieldDescriptor (TX1 k).2.2.1 = some (tyX1 k) := by decide +kernel
abbrev cX1_init : ByteArray := prog_3_method_1_code
def yX1_init : MethodName := ⟨RX1, "<init>", "(III)V"⟩
abbrev cX1_narrow : ByteArray := prog_3_method_2_code
def yX1_narrow : MethodName := ⟨RX1, "narrow", "(II)Z"⟩
abbrev cX1_restsIn : ByteArray := prog_3_method_3_code
def yX1_restsIn : MethodName := ⟨RX1, "restsIn", "(I)Z"⟩
abbrev cX1_grow : ByteArray := prog_3_method_4_code
def yX1_grow : MethodName := ⟨RX1, "grow", "()V"⟩
def RX2 : String := "BogForge$Founder"
def TX2 : u_T := fun k => match k with
  | 0 => ("BogForge$Founder", "letters", "[I", true)
  | 1 => ("BogForge$Founder", "signs", "[I", true)
  | 2 => ("BogForge$Founder", "numbers", "[I", true)
  | 3 => ("BogForge$Founder", "airs", "[I", true)
  | _ => ("BogForge$Founder", "clauses", "I", false)
def tyX2 : Nat → FieldType := fun k => match k with
  | 0 => .array .int
  | 1 => .array .int
  | 2 => .array .int
  | 3 => .array .int
  | _ => .int
abbrev wsX20 : List Cond := u_ws RX2 TX2 5
theorem nmX2 : ∀ a, a < 5 → ∀ b, b < 5 → a ≠ b → (TX2 a).2.1 ≠ (TX2 b).2.1 := by decide +kernel
theorem tyX2_ok : ∀ k, k < 5 → parseFieldDescriptor (TX2 k).2.2.1 = some (tyX2 k) := by decide +kernel
abbrev cX2_init : ByteArray := prog_4_method_1_code
def yX2_init : MethodName := ⟨RX2, "<init>", "()V"⟩
abbrev cX2_learn : ByteArray := prog_4_method_2_code
def yX2_learn : MethodName := ⟨RX2, "learn", "(LBogForge$Tape;)V"⟩
abbrev cX2_open : ByteArray := prog_4_method_3_code
def yX2_open : MethodName := ⟨RX2, "open", "(I)V"⟩
abbrev cX2_learnWithin : ByteArray := prog_4_method_4_code
def yX2_learnWithin : MethodName := ⟨RX2, "learnWithin", "(IIZ)V"⟩
abbrev cX2_airFor : ByteArray := prog_4_method_5_code
def yX2_airFor : MethodName := ⟨RX2, "airFor", "(LBogForge$Hearth;)I"⟩
abbrev cX2_reading : ByteArray := prog_4_method_6_code
def yX2_reading : MethodName := ⟨RX2, "reading", "(ILBogForge$Hearth;)I"⟩
abbrev cX2_holds : ByteArray := prog_4_method_7_code
def yX2_holds : MethodName := ⟨RX2, "holds", "(III)Z"⟩
def RX3 : String := "BogForge$Hearth"
def TX3 : u_T := fun k => match k with
  | 0 => ("BogForge$Hearth", "ore", "[I", true)
  | 1 => ("BogForge$Hearth", "bloom", "[I", true)
  | 2 => ("BogForge$Hearth", "charged", "[I", true)
  | 3 => ("BogForge$Hearth", "oreLeft", "I", false)
  | 4 => ("BogForge$Hearth", "coalLeft", "I", false)
  | 5 => ("BogForge$Hearth", "burnt", "I", false)
  | 6 => ("BogForge$Hearth", "heat", "I", false)
  | 7 => ("BogForge$Hearth", "minutes", "I", false)
  | 8 => ("BogForge$Hearth", "seen", "I", false)
  | 9 => ("BogForge$Hearth", "air", "I", false)
  | 10 => ("BogForge$Hearth", "scorch", "I", false)
  | 11 => ("BogForge$Hearth", "firstScorch", "I", false)
  | 12 => ("BogForge$Hearth", "water", "I", false)
  | _ => ("BogForge$Hearth", "gap", "I", false)
def tyX3 : Nat → FieldType := fun k => match k with
  | 0 => .array .int
  | 1 => .array .int
  | 2 => .array .int
  | 3 => .int
  | 4 => .int
  | 5 => .int
  | 6 => .int
  | 7 => .int
  | 8 => .int
  | 9 => .int
  | 10 => .int
  | 11 => .int
  | 12 => .int
  | _ => .int
abbrev wsX30 : List Cond := u_ws RX3 TX3 14
theorem nmX3 : ∀ a, a < 14 → ∀ b, b < 14 → a ≠ b → (TX3 a).2.1 ≠ (TX3 b).2.1 := by decide +kernel
theorem tyX3_ok : ∀ k, k < 14 → parseFieldDescriptor (TX3 k).2.2.1 = some (tyX3 k) := by decide +kernel
abbrev cX3_init : ByteArray := prog_5_method_1_code
def yX3_init : MethodName := ⟨RX3, "<init>", "()V"⟩
abbrev cX3_isFilled : ByteArray := prog_5_method_2_code
def yX3_isFilled : MethodName := ⟨RX3, "isFilled", "()Z"⟩
abbrev cX3_passMinute : ByteArray := prog_5_method_3_code
def yX3_passMinute : MethodName := ⟨RX3, "passMinute", "(LBogForge$Founder;LBogForge$Parting;)V"⟩
abbrev cX3_reduce : ByteArray := prog_5_method_4_code
def yX3_reduce : MethodName := ⟨RX3, "reduce", "(ILBogForge$Parting;)V"⟩
abbrev cX3_noteScorch : ByteArray := prog_5_method_5_code
def yX3_noteScorch : MethodName := ⟨RX3, "noteScorch", "()V"⟩
abbrev cX3_sortOfBloom : ByteArray := prog_5_method_6_code
def yX3_sortOfBloom : MethodName := ⟨RX3, "sortOfBloom", "()I"⟩
abbrev cX3_empty : ByteArray := prog_5_method_7_code
def yX3_empty : MethodName := ⟨RX3, "empty", "()V"⟩
def RX4 : String := "BogForge$Ledger"
def TX4 : u_T := fun k => match k with
  | 0 => ("BogForge$Ledger", "years", "[I", false)
  | 1 => ("BogForge$Ledger", "payNumbers", "[I", false)
  | 2 => ("BogForge$Ledger", "holders", "[I", false)
  | 3 => ("BogForge$Ledger", "amounts", "[I", false)
  | 4 => ("BogForge$Ledger", "totals", "[I", true)
  | _ => ("BogForge$Ledger", "size", "I", false)
def tyX4 : Nat → FieldType := fun k => match k with
  | 0 => .array .int
  | 1 => .array .int
  | 2 => .array .int
  | 3 => .array .int
  | 4 => .array .int
  | _ => .int
abbrev wsX40 : List Cond := u_ws RX4 TX4 6
theorem nmX4 : ∀ a, a < 6 → ∀ b, b < 6 → a ≠ b → (TX4 a).2.1 ≠ (TX4 b).2.1 := by decide +kernel
theorem tyX4_ok : ∀ k, k < 6 → parseFieldDescriptor (TX4 k).2.2.1 = some (tyX4 k) := by decide +kernel
abbrev cX4_init : ByteArray := prog_6_method_1_code
def yX4_init : MethodName := ⟨RX4, "<init>", "()V"⟩
abbrev cX4_hasRoom : ByteArray := prog_6_method_2_code
def yX4_hasRoom : MethodName := ⟨RX4, "hasRoom", "()Z"⟩
abbrev cX4_write : ByteArray := prog_6_method_3_code
def yX4_write : MethodName := ⟨RX4, "write", "(IIII)V"⟩
abbrev cX4_grow : ByteArray := prog_6_method_4_code
def yX4_grow : MethodName := ⟨RX4, "grow", "()V"⟩
def RX5 : String := "BogForge$Orders"
def TX5 : u_T := fun k => match k with
  | 0 => ("BogForge$Orders", "sorts", "[I", true)
  | 1 => ("BogForge$Orders", "leasts", "[I", true)
  | 2 => ("BogForge$Orders", "barOf", "[I", true)
  | 3 => ("BogForge$Orders", "size", "I", false)
  | 4 => ("BogForge$Orders", "couldMeet", "[I", true)
  | 5 => ("BogForge$Orders", "takenBy", "[I", true)
  | 6 => ("BogForge$Orders", "promised", "[Z", true)
  | 7 => ("BogForge$Orders", "cameFrom", "[I", true)
  | 8 => ("BogForge$Orders", "queue", "[I", true)
  | _ => ("BogForge$Orders", "barsKnown", "I", false)
def tyX5 : Nat → FieldType := fun k => match k with
  | 0 => .array .int
  | 1 => .array .int
  | 2 => .array .int
  | 3 => .int
  | 4 => .array .int
  | 5 => .array .int
  | 6 => .array .boolean
  | 7 => .array .int
  | 8 => .array .int
  | _ => .int
abbrev wsX50 : List Cond := u_ws RX5 TX5 10
theorem nmX5 : ∀ a, a < 10 → ∀ b, b < 10 → a ≠ b → (TX5 a).2.1 ≠ (TX5 b).2.1 := by decide +kernel
theorem tyX5_ok : ∀ k, k < 10 → parseFieldDescriptor (TX5 k).2.2.1 = some (tyX5 k) := by decide +kernel
abbrev cX5_init : ByteArray := prog_7_method_1_code
def yX5_init : MethodName := ⟨RX5, "<init>", "()V"⟩
abbrev cX5_take : ByteArray := prog_7_method_2_code
def yX5_take : MethodName := ⟨RX5, "take", "(II)I"⟩
abbrev cX5_weigh : ByteArray := prog_7_method_3_code
def yX5_weigh : MethodName := ⟨RX5, "weigh", "([LBogForge$Bar;I)V"⟩
abbrev cX5_ordersThatFit : ByteArray := prog_7_method_4_code
def yX5_ordersThatFit : MethodName := ⟨RX5, "ordersThatFit", "(II)I"⟩
abbrev cX5_match : ByteArray := prog_7_method_5_code
def yX5_match : MethodName := ⟨RX5, "match", "([LBogForge$Bar;I)V"⟩
abbrev cX5_findBar : ByteArray := prog_7_method_6_code
def yX5_findBar : MethodName := ⟨RX5, "findBar", "(I)Z"⟩
abbrev cX5_handOver : ByteArray := prog_7_method_7_code
def yX5_handOver : MethodName := ⟨RX5, "handOver", "(I)V"⟩
abbrev cX5_lowerBar : ByteArray := prog_7_method_8_code
def yX5_lowerBar : MethodName := ⟨RX5, "lowerBar", "(I)V"⟩
abbrev cX5_swapTo : ByteArray := prog_7_method_9_code
def yX5_swapTo : MethodName := ⟨RX5, "swapTo", "(II)Z"⟩
abbrev cX5_metCount : ByteArray := prog_7_method_10_code
def yX5_metCount : MethodName := ⟨RX5, "metCount", "()I"⟩
abbrev cX5_leastWanting : ByteArray := prog_7_method_11_code
def yX5_leastWanting : MethodName := ⟨RX5, "leastWanting", "()I"⟩
abbrev cX5_barsFor : ByteArray := prog_7_method_12_code
def yX5_barsFor : MethodName := ⟨RX5, "barsFor", "(I)I"⟩
def RX6 : String := "BogForge$Parting"
def TX6 : u_T := fun k => match k with
  | 0 => ("BogForge$Parting", "shares", "[I", true)
  | _ => ("BogForge$Parting", "rests", "[J", true)
def tyX6 : Nat → FieldType := fun k => match k with
  | 0 => .array .int
  | _ => .array .long
abbrev wsX60 : List Cond := u_ws RX6 TX6 2
theorem nmX6 : ∀ a, a < 2 → ∀ b, b < 2 → a ≠ b → (TX6 a).2.1 ≠ (TX6 b).2.1 := by decide +kernel
theorem tyX6_ok : ∀ k, k < 2 → parseFieldDescriptor (TX6 k).2.2.1 = some (tyX6 k) := by decide +kernel
abbrev cX6_init : ByteArray := prog_8_method_1_code
def yX6_init : MethodName := ⟨RX6, "<init>", "()V"⟩
abbrev cX6_divide : ByteArray := prog_8_method_2_code
def yX6_divide : MethodName := ⟨RX6, "divide", "(I[I)Z"⟩
abbrev cX6_greatestRest : ByteArray := prog_8_method_3_code
def yX6_greatestRest : MethodName := ⟨RX6, "greatestRest", "(I)I"⟩
abbrev cX6_giveAllToFirst : ByteArray := prog_8_method_4_code
def yX6_giveAllToFirst : MethodName := ⟨RX6, "giveAllToFirst", "(I)V"⟩
abbrev cX6_carry : ByteArray := prog_8_method_5_code
def yX6_carry : MethodName := ⟨RX6, "carry", "(I[I[I)V"⟩
def RX7 : String := "BogForge$Pay"
def TX7 : u_T := fun k => match k with
  | 0 => ("BogForge$Pay", "bar", "I", true)
  | 1 => ("BogForge$Pay", "coins", "I", true)
  | 2 => ("BogForge$Pay", "madeIn", "I", true)
  | _ => ("BogForge$Pay", "shares", "[I", true)
def tyX7 : Nat → FieldType := fun k => match k with
  | 0 => .int
  | 1 => .int
  | 2 => .int
  | _ => .array .int
abbrev wsX70 : List Cond := u_ws RX7 TX7 4
theorem nmX7 : ∀ a, a < 4 → ∀ b, b < 4 → a ≠ b → (TX7 a).2.1 ≠ (TX7 b).2.1 := by decide +kernel
theorem tyX7_ok : ∀ k, k < 4 → parseFieldDescriptor (TX7 k).2.2.1 = some (tyX7 k) := by decide +kernel
abbrev cX7_init : ByteArray := prog_9_method_1_code
def yX7_init : MethodName := ⟨RX7, "<init>", "(III)V"⟩
def RX8 : String := "BogForge$Rights"
def TX8 : u_T := fun k => match k with
  | 0 => ("BogForge$Rights", "bogNumbers", "[I", true)
  | 1 => ("BogForge$Rights", "holders", "[I", true)
  | 2 => ("BogForge$Rights", "parts", "[I", true)
  | 3 => ("BogForge$Rights", "froms", "[I", true)
  | _ => ("BogForge$Rights", "size", "I", false)
def tyX8 : Nat → FieldType := fun k => match k with
  | 0 => .array .int
  | 1 => .array .int
  | 2 => .array .int
  | 3 => .array .int
  | _ => .int
abbrev wsX80 : List Cond := u_ws RX8 TX8 5
theorem nmX8 : ∀ a, a < 5 → ∀ b, b < 5 → a ≠ b → (TX8 a).2.1 ≠ (TX8 b).2.1 := by decide +kernel
theorem tyX8_ok : ∀ k, k < 5 → parseFieldDescriptor (TX8 k).2.2.1 = some (tyX8 k) := by decide +kernel
abbrev cX8_init : ByteArray := prog_10_method_1_code
def yX8_init : MethodName := ⟨RX8, "<init>", "()V"⟩
abbrev cX8_tell : ByteArray := prog_10_method_2_code
def yX8_tell : MethodName := ⟨RX8, "tell", "(IIII)Z"⟩
abbrev cX8_inForce : ByteArray := prog_10_method_3_code
def yX8_inForce : MethodName := ⟨RX8, "inForce", "(III)I"⟩
abbrev cX8_claimOf : ByteArray := prog_10_method_4_code
def yX8_claimOf : MethodName := ⟨RX8, "claimOf", "(ILBogForge$Bar;I)I"⟩
def RX9 : String := "BogForge$Tape"
def TX9 : u_T := fun k => match k with
  | 0 => ("BogForge$Tape", "bytes", "[I", true)
  | _ => ("BogForge$Tape", "length", "I", false)
def tyX9 : Nat → FieldType := fun k => match k with
  | 0 => .array .int
  | _ => .int
abbrev wsX90 : List Cond := u_ws RX9 TX9 2
theorem nmX9 : ∀ a, a < 2 → ∀ b, b < 2 → a ≠ b → (TX9 a).2.1 ≠ (TX9 b).2.1 := by decide +kernel
theorem tyX9_ok : ∀ k, k < 2 → parseFieldDescriptor (TX9 k).2.2.1 = some (tyX9 k) := by decide +kernel
abbrev cX9_init : ByteArray := prog_11_method_1_code
def yX9_init : MethodName := ⟨RX9, "<init>", "()V"⟩
abbrev cX9_bytesIn : ByteArray := prog_11_method_2_code
def yX9_bytesIn : MethodName := ⟨RX9, "bytesIn", "(I)I"⟩
abbrev cX9_append : ByteArray := prog_11_method_3_code
def yX9_append : MethodName := ⟨RX9, "append", "(I)V"⟩
abbrev cX9_byteAt : ByteArray := prog_11_method_4_code
def yX9_byteAt : MethodName := ⟨RX9, "byteAt", "(I)I"⟩
abbrev cX9_firstFault : ByteArray := prog_11_method_5_code
def yX9_firstFault : MethodName := ⟨RX9, "firstFault", "()I"⟩
abbrev cX9_after : ByteArray := prog_11_method_6_code
def yX9_after : MethodName := ⟨RX9, "after", "(II)I"⟩
abbrev cX9_afterDigit : ByteArray := prog_11_method_7_code
def yX9_afterDigit : MethodName := ⟨RX9, "afterDigit", "(II)I"⟩
abbrev cX9_isLetter : ByteArray := prog_11_method_8_code
def yX9_isLetter : MethodName := ⟨RX9, "isLetter", "(I)Z"⟩
abbrev cX9_isSign : ByteArray := prog_11_method_9_code
def yX9_isSign : MethodName := ⟨RX9, "isSign", "(I)Z"⟩
abbrev cX9_isDigit : ByteArray := prog_11_method_10_code
def yX9_isDigit : MethodName := ⟨RX9, "isDigit", "(I)Z"⟩
def RX10 : String := "BogForge$Yard"
def TX10 : u_T := fun k => match k with
  | 0 => ("BogForge$Yard", "ore", "[I", true)
  | _ => ("BogForge$Yard", "coal", "[I", true)
def tyX10 : Nat → FieldType := fun k => match k with
  | 0 => .array .int
  | _ => .array .int
abbrev wsX100 : List Cond := u_ws RX10 TX10 2
theorem nmX10 : ∀ a, a < 2 → ∀ b, b < 2 → a ≠ b → (TX10 a).2.1 ≠ (TX10 b).2.1 := by decide +kernel
theorem tyX10_ok : ∀ k, k < 2 → parseFieldDescriptor (TX10 k).2.2.1 = some (tyX10 k) := by decide +kernel
abbrev cX10_init : ByteArray := prog_12_method_1_code
def yX10_init : MethodName := ⟨RX10, "<init>", "()V"⟩
abbrev cX10_addOre : ByteArray := prog_12_method_2_code
def yX10_addOre : MethodName := ⟨RX10, "addOre", "(II)I"⟩
abbrev cX10_addCoal : ByteArray := prog_12_method_3_code
def yX10_addCoal : MethodName := ⟨RX10, "addCoal", "(II)I"⟩
def RX11 : String := "BogForge"
def TX11 : u_T := fun k => match k with
  | 0 => ("BogForge", "now", "I", false)
  | 1 => ("BogForge", "bogs", "[LBogForge$Bog;", true)
  | 2 => ("BogForge", "bogCount", "I", false)
  | 3 => ("BogForge", "yard", "LBogForge$Yard;", true)
  | 4 => ("BogForge", "tape", "LBogForge$Tape;", true)
  | 5 => ("BogForge", "founder", "LBogForge$Founder;", true)
  | 6 => ("BogForge", "hearth", "LBogForge$Hearth;", true)
  | 7 => ("BogForge", "bars", "[LBogForge$Bar;", true)
  | 8 => ("BogForge", "barCount", "I", false)
  | 9 => ("BogForge", "oreLost", "I", false)
  | 10 => ("BogForge", "rights", "LBogForge$Rights;", true)
  | 11 => ("BogForge", "pays", "[LBogForge$Pay;", true)
  | 12 => ("BogForge", "payCount", "I", false)
  | 13 => ("BogForge", "ledger", "LBogForge$Ledger;", true)
  | 14 => ("BogForge", "orders", "LBogForge$Orders;", true)
  | 15 => ("BogForge", "parting", "LBogForge$Parting;", true)
  | _ => ("BogForge", "claims", "[I", true)
def tyX11 : Nat → FieldType := fun k => match k with
  | 0 => .int
  | 1 => .array (.object "BogForge$Bog")
  | 2 => .int
  | 3 => .object "BogForge$Yard"
  | 4 => .object "BogForge$Tape"
  | 5 => .object "BogForge$Founder"
  | 6 => .object "BogForge$Hearth"
  | 7 => .array (.object "BogForge$Bar")
  | 8 => .int
  | 9 => .int
  | 10 => .object "BogForge$Rights"
  | 11 => .array (.object "BogForge$Pay")
  | 12 => .int
  | 13 => .object "BogForge$Ledger"
  | 14 => .object "BogForge$Orders"
  | 15 => .object "BogForge$Parting"
  | _ => .array .int
abbrev wsX110 : List Cond := u_ws RX11 TX11 17
theorem nmX11 : ∀ a, a < 17 → ∀ b, b < 17 → a ≠ b → (TX11 a).2.1 ≠ (TX11 b).2.1 := by decide +kernel
theorem tyX11_ok : ∀ k, k < 17 → parseFieldDescriptor (TX11 k).2.2.1 = some (tyX11 k) := by decide +kernel
abbrev cX11_init : ByteArray := prog_1_method_1_code
def yX11_init : MethodName := ⟨RX11, "<init>", "()V"⟩
abbrev cX11_bog : ByteArray := prog_1_method_2_code
def yX11_bog : MethodName := ⟨RX11, "bog", "(III)I"⟩
abbrev cX11_test : ByteArray := prog_1_method_3_code
def yX11_test : MethodName := ⟨RX11, "test", "(III)Z"⟩
abbrev cX11_dig : ByteArray := prog_1_method_4_code
def yX11_dig : MethodName := ⟨RX11, "dig", "(II)I"⟩
abbrev cX11_coal : ByteArray := prog_1_method_5_code
def yX11_coal : MethodName := ⟨RX11, "coal", "(II)I"⟩
abbrev cX11_year : ByteArray := prog_1_method_6_code
def yX11_year : MethodName := ⟨RX11, "year", "()I"⟩
abbrev cX11_ground : ByteArray := prog_1_method_7_code
def yX11_ground : MethodName := ⟨RX11, "ground", "(II)I"⟩
abbrev cX11_feed : ByteArray := prog_1_method_8_code
def yX11_feed : MethodName := ⟨RX11, "feed", "(IIIII)I"⟩
abbrev cX11_end : ByteArray := prog_1_method_9_code
def yX11_end : MethodName := ⟨RX11, "end", "(I)Z"⟩
abbrev cX11_fault : ByteArray := prog_1_method_10_code
def yX11_fault : MethodName := ⟨RX11, "fault", "()I"⟩
abbrev cX11_rules : ByteArray := prog_1_method_11_code
def yX11_rules : MethodName := ⟨RX11, "rules", "()Z"⟩
abbrev cX11_water : ByteArray := prog_1_method_12_code
def yX11_water : MethodName := ⟨RX11, "water", "(I)Z"⟩
abbrev cX11_gap : ByteArray := prog_1_method_13_code
def yX11_gap : MethodName := ⟨RX11, "gap", "(I)Z"⟩
abbrev cX11_charge : ByteArray := prog_1_method_14_code
def yX11_charge : MethodName := ⟨RX11, "charge", "(II)Z"⟩
abbrev cX11_blow : ByteArray := prog_1_method_15_code
def yX11_blow : MethodName := ⟨RX11, "blow", "(I)I"⟩
abbrev cX11_furnace : ByteArray := prog_1_method_16_code
def yX11_furnace : MethodName := ⟨RX11, "furnace", "(I)I"⟩
abbrev cX11_draw : ByteArray := prog_1_method_17_code
def yX11_draw : MethodName := ⟨RX11, "draw", "()I"⟩
abbrev cX11_ironInBloom : ByteArray := prog_1_method_18_code
def yX11_ironInBloom : MethodName := ⟨RX11, "ironInBloom", "(Z)I"⟩
abbrev cX11_forge : ByteArray := prog_1_method_19_code
def yX11_forge : MethodName := ⟨RX11, "forge", "(II)I"⟩
abbrev cX11_bar : ByteArray := prog_1_method_20_code
def yX11_bar : MethodName := ⟨RX11, "bar", "(II)I"⟩
abbrev cX11_part : ByteArray := prog_1_method_21_code
def yX11_part : MethodName := ⟨RX11, "part", "(II)I"⟩
abbrev cX11_burnt : ByteArray := prog_1_method_22_code
def yX11_burnt : MethodName := ⟨RX11, "burnt", "(II)I"⟩
abbrev cX11_right : ByteArray := prog_1_method_23_code
def yX11_right : MethodName := ⟨RX11, "right", "(IIII)Z"⟩
abbrev cX11_pay : ByteArray := prog_1_method_24_code
def yX11_pay : MethodName := ⟨RX11, "pay", "(II)I"⟩
abbrev cX11_again : ByteArray := prog_1_method_25_code
def yX11_again : MethodName := ⟨RX11, "again", "(I)I"⟩
abbrev cX11_line : ByteArray := prog_1_method_26_code
def yX11_line : MethodName := ⟨RX11, "line", "(II)I"⟩
abbrev cX11_coins : ByteArray := prog_1_method_27_code
def yX11_coins : MethodName := ⟨RX11, "coins", "(I)I"⟩
abbrev cX11_settle : ByteArray := prog_1_method_28_code
def yX11_settle : MethodName := ⟨RX11, "settle", "(I)I"⟩
abbrev cX11_order : ByteArray := prog_1_method_29_code
def yX11_order : MethodName := ⟨RX11, "order", "(II)I"⟩
abbrev cX11_clear : ByteArray := prog_1_method_30_code
def yX11_clear : MethodName := ⟨RX11, "clear", "()V"⟩
abbrev cX11_met : ByteArray := prog_1_method_31_code
def yX11_met : MethodName := ⟨RX11, "met", "(I)I"⟩
abbrev cX11_want : ByteArray := prog_1_method_32_code
def yX11_want : MethodName := ⟨RX11, "want", "()I"⟩
abbrev cX11_count : ByteArray := prog_1_method_33_code
def yX11_count : MethodName := ⟨RX11, "count", "(I)I"⟩
abbrev cX11_bogAt : ByteArray := prog_1_method_34_code
def yX11_bogAt : MethodName := ⟨RX11, "bogAt", "(I)LBogForge$Bog;"⟩
abbrev cX11_barAt : ByteArray := prog_1_method_35_code
def yX11_barAt : MethodName := ⟨RX11, "barAt", "(I)LBogForge$Bar;"⟩
abbrev cX11_within : ByteArray := prog_1_method_36_code
def yX11_within : MethodName := ⟨RX11, "within", "(III)Z"⟩
abbrev cX11_itemOf : ByteArray := prog_1_method_37_code
def yX11_itemOf : MethodName := ⟨RX11, "itemOf", "([II)I"⟩
abbrev cX11_sumOf : ByteArray := prog_1_method_38_code
def yX11_sumOf : MethodName := ⟨RX11, "sumOf", "([I)I"⟩
def RX12 : String := "BogForgeModel"
def TX12 : u_T := fun k => match k with
  | 0 => ("BogForgeModel", "now", "I", false)
  | 1 => ("BogForgeModel", "bogs", "I", false)
  | 2 => ("BogForgeModel", "bars", "I", false)
  | 3 => ("BogForgeModel", "pays", "I", false)
  | 4 => ("BogForgeModel", "lines", "I", false)
  | 5 => ("BogForgeModel", "orders", "I", false)
  | 6 => ("BogForgeModel", "rights", "I", false)
  | 7 => ("BogForgeModel", "goneOre", "I", false)
  | 8 => ("BogForgeModel", "ore", "[I", true)
  | 9 => ("BogForgeModel", "growth", "[I", true)
  | 10 => ("BogForgeModel", "rest", "[I", true)
  | 11 => ("BogForgeModel", "low", "[I", true)
  | 12 => ("BogForgeModel", "high", "[I", true)
  | 13 => ("BogForgeModel", "dug", "[I", true)
  | 14 => ("BogForgeModel", "yardOre", "[I", true)
  | 15 => ("BogForgeModel", "yardCoal", "[I", true)
  | 16 => ("BogForgeModel", "measure", "[J", true)
  | 17 => ("BogForgeModel", "share", "[I", true)
  | 18 => ("BogForgeModel", "more", "[Z", true)
  | 19 => ("BogForgeModel", "raw", "[I", true)
  | 20 => ("BogForgeModel", "charged", "[I", true)
  | 21 => ("BogForgeModel", "bloom", "[I", true)
  | 22 => ("BogForgeModel", "burnt", "I", false)
  | 23 => ("BogForgeModel", "heat", "I", false)
  | 24 => ("BogForgeModel", "minutes", "I", false)
  | 25 => ("BogForgeModel", "seen", "I", false)
  | 26 => ("BogForgeModel", "air", "I", false)
  | 27 => ("BogForgeModel", "scorch", "I", false)
  | 28 => ("BogForgeModel", "firstScorch", "I", false)
  | 29 => ("BogForgeModel", "water", "I", false)
  | 30 => ("BogForgeModel", "gap", "I", false)
  | 31 => ("BogForgeModel", "tape", "[I", true)
  | 32 => ("BogForgeModel", "size", "I", false)
  | 33 => ("BogForgeModel", "at", "I", false)
  | 34 => ("BogForgeModel", "ruleMany", "I", false)
  | 35 => ("BogForgeModel", "readMany", "I", false)
  | 36 => ("BogForgeModel", "ruleLetter", "[I", true)
  | 37 => ("BogForgeModel", "ruleSign", "[I", true)
  | 38 => ("BogForgeModel", "ruleNumber", "[I", true)
  | 39 => ("BogForgeModel", "ruleAir", "[I", true)
  | 40 => ("BogForgeModel", "readLetter", "[I", true)
  | 41 => ("BogForgeModel", "readSign", "[I", true)
  | 42 => ("BogForgeModel", "readNumber", "[I", true)
  | 43 => ("BogForgeModel", "readAir", "[I", true)
  | 44 => ("BogForgeModel", "barOre", "[I", true)
  | 45 => ("BogForgeModel", "barCoal", "[I", true)
  | 46 => ("BogForgeModel", "least", "[I", true)
  | 47 => ("BogForgeModel", "greatest", "[I", true)
  | 48 => ("BogForgeModel", "drawnSort", "[I", true)
  | 49 => ("BogForgeModel", "heats", "[I", true)
  | 50 => ("BogForgeModel", "drawnIn", "[I", true)
  | 51 => ("BogForgeModel", "rightBog", "[I", true)
  | 52 => ("BogForgeModel", "rightHolder", "[I", true)
  | 53 => ("BogForgeModel", "rightParts", "[I", true)
  | 54 => ("BogForgeModel", "rightFrom", "[I", true)
  | 55 => ("BogForgeModel", "payBar", "[I", true)
  | 56 => ("BogForgeModel", "payCoins", "[I", true)
  | 57 => ("BogForgeModel", "payYear", "[I", true)
  | 58 => ("BogForgeModel", "has", "[I", true)
  | 59 => ("BogForgeModel", "coins", "[I", true)
  | 60 => ("BogForgeModel", "lineYear", "[I", false)
  | 61 => ("BogForgeModel", "linePay", "[I", false)
  | 62 => ("BogForgeModel", "lineHolder", "[I", false)
  | 63 => ("BogForgeModel", "lineCoins", "[I", false)
  | 64 => ("BogForgeModel", "orderSort", "[I", true)
  | 65 => ("BogForgeModel", "orderLeast", "[I", true)
  | 66 => ("BogForgeModel", "given", "[I", true)
  | 67 => ("BogForgeModel", "barTo", "[I", true)
  | _ => ("BogForgeModel", "asked", "[Z", true)
def tyX12 : Nat → FieldType := fun k => match k with
  | 0 => .int
  | 1 => .int
  | 2 => .int
  | 3 => .int
  | 4 => .int
  | 5 => .int
  | 6 => .int
  | 7 => .int
  | 8 => .array .int
  | 9 => .array .int
  | 10 => .array .int
  | 11 => .array .int
  | 12 => .array .int
  | 13 => .array .int
  | 14 => .array .int
  | 15 => .array .int
  | 16 => .array .long
  | 17 => .array .int
  | 18 => .array .boolean
  | 19 => .array .int
  | 20 => .array .int
  | 21 => .array .int
  | 22 => .int
  | 23 => .int
  | 24 => .int
  | 25 => .int
  | 26 => .int
  | 27 => .int
  | 28 => .int
  | 29 => .int
  | 30 => .int
  | 31 => .array .int
  | 32 => .int
  | 33 => .int
  | 34 => .int
  | 35 => .int
  | 36 => .array .int
  | 37 => .array .int
  | 38 => .array .int
  | 39 => .array .int
  | 40 => .array .int
  | 41 => .array .int
  | 42 => .array .int
  | 43 => .array .int
  | 44 => .array .int
  | 45 => .array .int
  | 46 => .array .int
  | 47 => .array .int
  | 48 => .array .int
  | 49 => .array .int
  | 50 => .array .int
  | 51 => .array .int
  | 52 => .array .int
  | 53 => .array .int
  | 54 => .array .int
  | 55 => .array .int
  | 56 => .array .int
  | 57 => .array .int
  | 58 => .array .int
  | 59 => .array .int
  | 60 => .array .int
  | 61 => .array .int
  | 62 => .array .int
  | 63 => .array .int
  | 64 => .array .int
  | 65 => .array .int
  | 66 => .array .int
  | 67 => .array .int
  | _ => .array .boolean
abbrev wsX120 : List Cond := u_ws RX12 TX12 69
theorem nmX12 : ∀ a, a < 69 → ∀ b, b < 69 → a ≠ b → (TX12 a).2.1 ≠ (TX12 b).2.1 := by decide +kernel
theorem tyX12_ok : ∀ k, k < 69 → parseFieldDescriptor (TX12 k).2.2.1 = some (tyX12 k) := by decide +kernel
abbrev cX12_init : ByteArray := prog_14_method_1_code
def yX12_init : MethodName := ⟨RX12, "<init>", "()V"⟩
abbrev cX12_in : ByteArray := prog_14_method_2_code
def yX12_in : MethodName := ⟨RX12, "in", "(III)Z"⟩
abbrev cX12_isBog : ByteArray := prog_14_method_3_code
def yX12_isBog : MethodName := ⟨RX12, "isBog", "(I)Z"⟩
abbrev cX12_sum : ByteArray := prog_14_method_4_code
def yX12_sum : MethodName := ⟨RX12, "sum", "([I)I"⟩
abbrev cX12_partAmong : ByteArray := prog_14_method_5_code
def yX12_partAmong : MethodName := ⟨RX12, "partAmong", "(JI)V"⟩
abbrev cX12_partBy : ByteArray := prog_14_method_6_code
def yX12_partBy : MethodName := ⟨RX12, "partBy", "(I[I)V"⟩
abbrev cX12_bog : ByteArray := prog_14_method_7_code
def yX12_bog : MethodName := ⟨RX12, "bog", "(III)I"⟩
abbrev cX12_test : ByteArray := prog_14_method_8_code
def yX12_test : MethodName := ⟨RX12, "test", "(III)Z"⟩
abbrev cX12_dig : ByteArray := prog_14_method_9_code
def yX12_dig : MethodName := ⟨RX12, "dig", "(II)I"⟩
abbrev cX12_coal : ByteArray := prog_14_method_10_code
def yX12_coal : MethodName := ⟨RX12, "coal", "(II)I"⟩
abbrev cX12_year : ByteArray := prog_14_method_11_code
def yX12_year : MethodName := ⟨RX12, "year", "()I"⟩
abbrev cX12_water : ByteArray := prog_14_method_12_code
def yX12_water : MethodName := ⟨RX12, "water", "(I)Z"⟩
abbrev cX12_gap : ByteArray := prog_14_method_13_code
def yX12_gap : MethodName := ⟨RX12, "gap", "(I)Z"⟩
abbrev cX12_charge : ByteArray := prog_14_method_14_code
def yX12_charge : MethodName := ⟨RX12, "charge", "(II)Z"⟩
abbrev cX12_minute : ByteArray := prog_14_method_15_code
def yX12_minute : MethodName := ⟨RX12, "minute", "()V"⟩
abbrev cX12_blow : ByteArray := prog_14_method_16_code
def yX12_blow : MethodName := ⟨RX12, "blow", "(I)I"⟩
abbrev cX12_furnace : ByteArray := prog_14_method_17_code
def yX12_furnace : MethodName := ⟨RX12, "furnace", "(I)I"⟩
abbrev cX12_byteOf : ByteArray := prog_14_method_18_code
def yX12_byteOf : MethodName := ⟨RX12, "byteOf", "(IIIIII)I"⟩
abbrev cX12_feed : ByteArray := prog_14_method_19_code
def yX12_feed : MethodName := ⟨RX12, "feed", "(IIIII)I"⟩
abbrev cX12_end : ByteArray := prog_14_method_20_code
def yX12_end : MethodName := ⟨RX12, "end", "(I)Z"⟩
abbrev cX12_look : ByteArray := prog_14_method_21_code
def yX12_look : MethodName := ⟨RX12, "look", "()I"⟩
abbrev cX12_isDigit : ByteArray := prog_14_method_22_code
def yX12_isDigit : MethodName := ⟨RX12, "isDigit", "(I)Z"⟩
abbrev cX12_clause : ByteArray := prog_14_method_23_code
def yX12_clause : MethodName := ⟨RX12, "clause", "()Z"⟩
abbrev cX12_fault : ByteArray := prog_14_method_24_code
def yX12_fault : MethodName := ⟨RX12, "fault", "()I"⟩
abbrev cX12_rules : ByteArray := prog_14_method_25_code
def yX12_rules : MethodName := ⟨RX12, "rules", "()Z"⟩
abbrev cX12_holds : ByteArray := prog_14_method_26_code
def yX12_holds : MethodName := ⟨RX12, "holds", "(I)Z"⟩
abbrev cX12_draw : ByteArray := prog_14_method_27_code
def yX12_draw : MethodName := ⟨RX12, "draw", "()I"⟩
abbrev cX12_isBar : ByteArray := prog_14_method_28_code
def yX12_isBar : MethodName := ⟨RX12, "isBar", "(I)Z"⟩
abbrev cX12_sortOf : ByteArray := prog_14_method_29_code
def yX12_sortOf : MethodName := ⟨RX12, "sortOf", "(I)I"⟩
abbrev cX12_forge : ByteArray := prog_14_method_30_code
def yX12_forge : MethodName := ⟨RX12, "forge", "(II)I"⟩
abbrev cX12_bar : ByteArray := prog_14_method_31_code
def yX12_bar : MethodName := ⟨RX12, "bar", "(II)I"⟩
abbrev cX12_part : ByteArray := prog_14_method_32_code
def yX12_part : MethodName := ⟨RX12, "part", "(II)I"⟩
abbrev cX12_burnt : ByteArray := prog_14_method_33_code
def yX12_burnt : MethodName := ⟨RX12, "burnt", "(II)I"⟩
abbrev cX12_right : ByteArray := prog_14_method_34_code
def yX12_right : MethodName := ⟨RX12, "right", "(IIII)Z"⟩
abbrev cX12_inForce : ByteArray := prog_14_method_35_code
def yX12_inForce : MethodName := ⟨RX12, "inForce", "(III)I"⟩
abbrev cX12_longer : ByteArray := prog_14_method_36_code
def yX12_longer : MethodName := ⟨RX12, "longer", "([I)[I"⟩
abbrev cX12_settle : ByteArray := prog_14_method_37_code
def yX12_settle : MethodName := ⟨RX12, "settle", "(I)I"⟩
abbrev cX12_pay : ByteArray := prog_14_method_38_code
def yX12_pay : MethodName := ⟨RX12, "pay", "(II)I"⟩
abbrev cX12_again : ByteArray := prog_14_method_39_code
def yX12_again : MethodName := ⟨RX12, "again", "(I)I"⟩
abbrev cX12_line : ByteArray := prog_14_method_40_code
def yX12_line : MethodName := ⟨RX12, "line", "(II)I"⟩
abbrev cX12_coins : ByteArray := prog_14_method_41_code
def yX12_coins : MethodName := ⟨RX12, "coins", "(I)I"⟩
abbrev cX12_order : ByteArray := prog_14_method_42_code
def yX12_order : MethodName := ⟨RX12, "order", "(II)I"⟩
abbrev cX12_clear : ByteArray := prog_14_method_43_code
def yX12_clear : MethodName := ⟨RX12, "clear", "()V"⟩
abbrev cX12_fits : ByteArray := prog_14_method_44_code
def yX12_fits : MethodName := ⟨RX12, "fits", "(II)Z"⟩
abbrev cX12_finds : ByteArray := prog_14_method_45_code
def yX12_finds : MethodName := ⟨RX12, "finds", "(II)Z"⟩
abbrev cX12_most : ByteArray := prog_14_method_46_code
def yX12_most : MethodName := ⟨RX12, "most", "(I)I"⟩
abbrev cX12_isGiven : ByteArray := prog_14_method_47_code
def yX12_isGiven : MethodName := ⟨RX12, "isGiven", "(II)Z"⟩
abbrev cX12_giveAll : ByteArray := prog_14_method_48_code
def yX12_giveAll : MethodName := ⟨RX12, "giveAll", "()I"⟩
abbrev cX12_met : ByteArray := prog_14_method_49_code
def yX12_met : MethodName := ⟨RX12, "met", "(I)I"⟩
abbrev cX12_couldHave : ByteArray := prog_14_method_50_code
def yX12_couldHave : MethodName := ⟨RX12, "couldHave", "(I)I"⟩
abbrev cX12_want : ByteArray := prog_14_method_51_code
def yX12_want : MethodName := ⟨RX12, "want", "()I"⟩
abbrev cX12_ground : ByteArray := prog_14_method_52_code
def yX12_ground : MethodName := ⟨RX12, "ground", "(II)I"⟩
abbrev cX12_count : ByteArray := prog_14_method_53_code
def yX12_count : MethodName := ⟨RX12, "count", "(I)I"⟩
def RJ6 : String := "java/lang/Integer"
def TJ6 : u_T := fun k => match k with
  | _ => ("", "", "", false)
def tyJ6 : Nat → FieldType := fun k => match k with
  | _ => .int
abbrev wsJ60 : List Cond := u_ws RJ6 TJ6 0
theorem nmJ6 : ∀ a, a < 0 → ∀ b, b < 0 → a ≠ b → (TJ6 a).2.1 ≠ (TJ6 b).2.1 := by decide +kernel
theorem tyJ6_ok : ∀ k, k < 0 → parseFieldDescriptor (TJ6 k).2.2.1 = some (tyJ6 k) := by decide +kernel
abbrev cJ6_bitCount_0f7a4 : ByteArray := prog_16_method_49_code
def yJ6_bitCount_0f7a4 : MethodName := ⟨RJ6, "bitCount", "(I)I"⟩
def RJ9 : String := "java/lang/Math"
def TJ9 : u_T := fun k => match k with
  | _ => ("", "", "", false)
def tyJ9 : Nat → FieldType := fun k => match k with
  | _ => .int
abbrev wsJ90 : List Cond := u_ws RJ9 TJ9 0
theorem nmJ9 : ∀ a, a < 0 → ∀ b, b < 0 → a ≠ b → (TJ9 a).2.1 ≠ (TJ9 b).2.1 := by decide +kernel
theorem tyJ9_ok : ∀ k, k < 0 → parseFieldDescriptor (TJ9 k).2.2.1 = some (tyJ9 k) := by decide +kernel
abbrev cJ9_max_7cf53 : ByteArray := prog_17_method_65_code
def yJ9_max_7cf53 : MethodName := ⟨RJ9, "max", "(II)I"⟩
abbrev cJ9_min_7cf53 : ByteArray := prog_17_method_69_code
def yJ9_min_7cf53 : MethodName := ⟨RJ9, "min", "(II)I"⟩
def RJ10 : String := "java/lang/System"
def TJ10 : u_T := fun k => match k with
  | _ => ("", "", "", false)
def tyJ10 : Nat → FieldType := fun k => match k with
  | _ => .int
abbrev wsJ100 : List Cond := u_ws RJ10 TJ10 0
theorem nmJ10 : ∀ a, a < 0 → ∀ b, b < 0 → a ≠ b → (TJ10 a).2.1 ≠ (TJ10 b).2.1 := by decide +kernel
theorem tyJ10_ok : ∀ k, k < 0 → parseFieldDescriptor (TJ10 k).2.2.1 = some (tyJ10 k) := by decide +kernel
def RJ7 : String := "java/util/Arrays"
def TJ7 : u_T := fun k => match k with
  | _ => ("", "", "", false)
def tyJ7 : Nat → FieldType := fun k => match k with
  | _ => .int
abbrev wsJ70 : List Cond := u_ws RJ7 TJ7 0
theorem nmJ7 : ∀ a, a < 0 → ∀ b, b < 0 → a ≠ b → (TJ7 a).2.1 ≠ (TJ7 b).2.1 := by decide +kernel
theorem tyJ7_ok : ∀ k, k < 0 → parseFieldDescriptor (TJ7 k).2.2.1 = some (tyJ7 k) := by decide +kernel
abbrev cJ7_fill_53178 : ByteArray := prog_19_method_103_code
def yJ7_fill_53178 : MethodName := ⟨RJ7, "fill", "([II)V"⟩
abbrev cJ7_copyOf_59c91 : ByteArray := prog_19_method_123_code
def yJ7_copyOf_59c91 : MethodName := ⟨RJ7, "copyOf", "([II)[I"⟩
def RL : String := "BogForgeLaw"
abbrev cL_law : ByteArray := code
def yL_law : MethodName := ⟨RL, "law", "([I)Z"⟩
abbrev vwCl : List vw_C := [(RX0, TX0, 7), (RX1, TX1, 6), (RX2, TX2, 5), (RX3, TX3, 14), (RX4, TX4, 6), (RX5, TX5, 10), (RX6, TX6, 2), (RX7, TX7, 4), (RX8, TX8, 5), (RX9, TX9, 2), (RX10, TX10, 2), (RX11, TX11, 17), (RX12, TX12, 69)]
end
section
theorem dX0_init_0 : decode cX0_init 0 = .ok (.aload_n 0, 1) := by decide +kernel
theorem dX0_init_1 : decode cX0_init 1 = .ok (.invokespecial 3, 3) := by decide +kernel
theorem dX0_init_4 : decode cX0_init 4 = .ok (.aload_n 0, 1) := by decide +kernel
theorem dX0_init_5 : decode cX0_init 5 = .ok (.bipush 12, 2) := by decide +kernel
theorem dX0_init_7 : decode cX0_init 7 = .ok (.newarray .int, 2) := by decide +kernel
theorem dX0_init_9 : decode cX0_init 9 = .ok (.putfield 9, 3) := by decide +kernel
theorem dX0_init_12 : decode cX0_init 12 = .ok (.aload_n 0, 1) := by decide +kernel
theorem dX0_init_13 : decode cX0_init 13 = .ok (.bipush 8, 2) := by decide +kernel
theorem dX0_init_15 : decode cX0_init 15 = .ok (.newarray .int, 2) := by decide +kernel
theorem dX0_init_17 : decode cX0_init 17 = .ok (.putfield 15, 3) := by decide +kernel
theorem dX0_init_20 : decode cX0_init 20 = .ok (.aload_n 0, 1) := by decide +kernel
theorem dX0_init_21 : decode cX0_init 21 = .ok (.iload_n 1, 1) := by decide +kernel
theorem dX0_init_22 : decode cX0_init 22 = .ok (.putfield 18, 3) := by decide +kernel
theorem dX0_init_25 : decode cX0_init 25 = .ok (.aload_n 0, 1) := by decide +kernel
theorem dX0_init_26 : decode cX0_init 26 = .ok (.iload_n 2, 1) := by decide +kernel
theorem dX0_init_27 : decode cX0_init 27 = .ok (.putfield 22, 3) := by decide +kernel
theorem dX0_init_30 : decode cX0_init 30 = .ok (.return_, 1) := by decide +kernel
theorem dX0_setIron_0 : decode cX0_setIron 0 = .ok (.aload_n 0, 1) := by decide +kernel
theorem dX0_setIron_1 : decode cX0_setIron 1 = .ok (.iload_n 1, 1) := by decide +kernel
theorem dX0_setIron_2 : decode cX0_setIron 2 = .ok (.putfield 25, 3) := by decide +kernel
theorem dX0_setIron_5 : decode cX0_setIron 5 = .ok (.aload_n 0, 1) := by decide +kernel
theorem dX0_setIron_6 : decode cX0_setIron 6 = .ok (.iload_n 2, 1) := by decide +kernel
theorem dX0_setIron_7 : decode cX0_setIron 7 = .ok (.putfield 28, 3) := by decide +kernel
theorem dX0_setIron_10 : decode cX0_setIron 10 = .ok (.return_, 1) := by decide +kernel
theorem dX0_heatOnce_0 : decode cX0_heatOnce 0 = .ok (.aload_n 0, 1) := by decide +kernel
theorem dX0_heatOnce_1 : decode cX0_heatOnce 1 = .ok (.aload_n 0, 1) := by decide +kernel
theorem dX0_heatOnce_2 : decode cX0_heatOnce 2 = .ok (.getfield 25, 3) := by decide +kernel
theorem dX0_heatOnce_5 : decode cX0_heatOnce 5 = .ok (.i2l, 1) := by decide +kernel
theorem dX0_heatOnce_6 : decode cX0_heatOnce 6 = .ok (.ldc2_w 31, 3) := by decide +kernel
theorem dX0_heatOnce_9 : decode cX0_heatOnce 9 = .ok (.lmul, 1) := by decide +kernel
theorem dX0_heatOnce_10 : decode cX0_heatOnce 10 = .ok (.ldc2_w 33, 3) := by decide +kernel
theorem dX0_heatOnce_13 : decode cX0_heatOnce 13 = .ok (.ldiv, 1) := by decide +kernel
theorem dX0_heatOnce_14 : decode cX0_heatOnce 14 = .ok (.l2i, 1) := by decide +kernel
theorem dX0_heatOnce_15 : decode cX0_heatOnce 15 = .ok (.putfield 25, 3) := by decide +kernel
theorem dX0_heatOnce_18 : decode cX0_heatOnce 18 = .ok (.aload_n 0, 1) := by decide +kernel
theorem dX0_heatOnce_19 : decode cX0_heatOnce 19 = .ok (.aload_n 0, 1) := by decide +kernel
theorem dX0_heatOnce_20 : decode cX0_heatOnce 20 = .ok (.getfield 28, 3) := by decide +kernel
theorem dX0_heatOnce_23 : decode cX0_heatOnce 23 = .ok (.i2l, 1) := by decide +kernel
theorem dX0_heatOnce_24 : decode cX0_heatOnce 24 = .ok (.ldc2_w 35, 3) := by decide +kernel
theorem dX0_heatOnce_27 : decode cX0_heatOnce 27 = .ok (.lmul, 1) := by decide +kernel
theorem dX0_heatOnce_28 : decode cX0_heatOnce 28 = .ok (.ldc2_w 35, 3) := by decide +kernel
theorem dX0_heatOnce_31 : decode cX0_heatOnce 31 = .ok (.ladd, 1) := by decide +kernel
theorem dX0_heatOnce_32 : decode cX0_heatOnce 32 = .ok (.ldc2_w 33, 3) := by decide +kernel
theorem dX0_heatOnce_35 : decode cX0_heatOnce 35 = .ok (.ldiv, 1) := by decide +kernel
theorem dX0_heatOnce_36 : decode cX0_heatOnce 36 = .ok (.l2i, 1) := by decide +kernel
theorem dX0_heatOnce_37 : decode cX0_heatOnce 37 = .ok (.putfield 28, 3) := by decide +kernel
theorem dX0_heatOnce_40 : decode cX0_heatOnce 40 = .ok (.aload_n 0, 1) := by decide +kernel
theorem dX0_heatOnce_41 : decode cX0_heatOnce 41 = .ok (.dup, 1) := by decide +kernel
theorem dX0_heatOnce_42 : decode cX0_heatOnce 42 = .ok (.getfield 37, 3) := by decide +kernel
theorem dX0_heatOnce_45 : decode cX0_heatOnce 45 = .ok (.iconst 1, 1) := by decide +kernel
theorem dX0_heatOnce_46 : decode cX0_heatOnce 46 = .ok (.iadd, 1) := by decide +kernel
theorem dX0_heatOnce_47 : decode cX0_heatOnce 47 = .ok (.putfield 37, 3) := by decide +kernel
theorem dX0_heatOnce_50 : decode cX0_heatOnce 50 = .ok (.return_, 1) := by decide +kernel
theorem dX0_sortNow_0 : decode cX0_sortNow 0 = .ok (.iconst 0, 1) := by decide +kernel
theorem dX0_sortNow_1 : decode cX0_sortNow 1 = .ok (.aload_n 0, 1) := by decide +kernel
theorem dX0_sortNow_2 : decode cX0_sortNow 2 = .ok (.getfield 18, 3) := by decide +kernel
theorem dX0_sortNow_5 : decode cX0_sortNow 5 = .ok (.aload_n 0, 1) := by decide +kernel
theorem dX0_sortNow_6 : decode cX0_sortNow 6 = .ok (.getfield 37, 3) := by decide +kernel
theorem dX0_sortNow_9 : decode cX0_sortNow 9 = .ok (.iconst 2, 1) := by decide +kernel
theorem dX0_sortNow_10 : decode cX0_sortNow 10 = .ok (.idiv, 1) := by decide +kernel
theorem dX0_sortNow_11 : decode cX0_sortNow 11 = .ok (.isub, 1) := by decide +kernel
theorem dX0_sortNow_12 : decode cX0_sortNow 12 = .ok (.invokestatic 40, 3) := by decide +kernel
theorem dX0_sortNow_15 : decode cX0_sortNow 15 = .ok (.ireturn, 1) := by decide +kernel
theorem dX1_init_0 : decode cX1_init 0 = .ok (.aload_n 0, 1) := by decide +kernel
theorem dX1_init_1 : decode cX1_init 1 = .ok (.invokespecial 3, 3) := by decide +kernel
theorem dX1_init_4 : decode cX1_init 4 = .ok (.aload_n 0, 1) := by decide +kernel
theorem dX1_init_5 : decode cX1_init 5 = .ok (.sipush 1000, 3) := by decide +kernel
theorem dX1_init_8 : decode cX1_init 8 = .ok (.putfield 9, 3) := by decide +kernel
theorem dX1_init_11 : decode cX1_init 11 = .ok (.aload_n 0, 1) := by decide +kernel
theorem dX1_init_12 : decode cX1_init 12 = .ok (.iconst (-1), 1) := by decide +kernel
theorem dX1_init_13 : decode cX1_init 13 = .ok (.putfield 15, 3) := by decide +kernel
theorem dX1_init_16 : decode cX1_init 16 = .ok (.aload_n 0, 1) := by decide +kernel
theorem dX1_init_17 : decode cX1_init 17 = .ok (.iload_n 1, 1) := by decide +kernel
theorem dX1_init_18 : decode cX1_init 18 = .ok (.putfield 18, 3) := by decide +kernel
theorem dX1_init_21 : decode cX1_init 21 = .ok (.aload_n 0, 1) := by decide +kernel
theorem dX1_init_22 : decode cX1_init 22 = .ok (.iload_n 2, 1) := by decide +kernel
theorem dX1_init_23 : decode cX1_init 23 = .ok (.putfield 21, 3) := by decide +kernel
theorem dX1_init_26 : decode cX1_init 26 = .ok (.aload_n 0, 1) := by decide +kernel
theorem dX1_init_27 : decode cX1_init 27 = .ok (.iload_n 3, 1) := by decide +kernel
theorem dX1_init_28 : decode cX1_init 28 = .ok (.putfield 24, 3) := by decide +kernel
theorem dX1_init_31 : decode cX1_init 31 = .ok (.return_, 1) := by decide +kernel
theorem dX1_narrow_0 : decode cX1_narrow 0 = .ok (.iload_n 1, 1) := by decide +kernel
theorem dX1_narrow_1 : decode cX1_narrow 1 = .ok (.aload_n 0, 1) := by decide +kernel
theorem dX1_narrow_2 : decode cX1_narrow 2 = .ok (.getfield 9, 3) := by decide +kernel
theorem dX1_narrow_5 : decode cX1_narrow 5 = .ok (.if_icmp .gt 11, 3) := by decide +kernel
theorem dX1_narrow_8 : decode cX1_narrow 8 = .ok (.iload_n 2, 1) := by decide +kernel
theorem dX1_narrow_9 : decode cX1_narrow 9 = .ok (.aload_n 0, 1) := by decide +kernel
theorem dX1_narrow_10 : decode cX1_narrow 10 = .ok (.getfield 27, 3) := by decide +kernel
theorem dX1_narrow_13 : decode cX1_narrow 13 = .ok (.if_icmp .ge 5, 3) := by decide +kernel
theorem dX1_narrow_16 : decode cX1_narrow 16 = .ok (.iconst 0, 1) := by decide +kernel
theorem dX1_narrow_17 : decode cX1_narrow 17 = .ok (.ireturn, 1) := by decide +kernel
theorem dX1_narrow_18 : decode cX1_narrow 18 = .ok (.aload_n 0, 1) := by decide +kernel
theorem dX1_narrow_19 : decode cX1_narrow 19 = .ok (.aload_n 0, 1) := by decide +kernel
theorem dX1_narrow_20 : decode cX1_narrow 20 = .ok (.getfield 27, 3) := by decide +kernel
theorem dX1_narrow_23 : decode cX1_narrow 23 = .ok (.iload_n 1, 1) := by decide +kernel
theorem dX1_narrow_24 : decode cX1_narrow 24 = .ok (.invokestatic 30, 3) := by decide +kernel
theorem dX1_narrow_27 : decode cX1_narrow 27 = .ok (.putfield 27, 3) := by decide +kernel
theorem dX1_narrow_30 : decode cX1_narrow 30 = .ok (.aload_n 0, 1) := by decide +kernel
theorem dX1_narrow_31 : decode cX1_narrow 31 = .ok (.aload_n 0, 1) := by decide +kernel
theorem dX1_narrow_32 : decode cX1_narrow 32 = .ok (.getfield 9, 3) := by decide +kernel
theorem dX1_narrow_35 : decode cX1_narrow 35 = .ok (.iload_n 2, 1) := by decide +kernel
theorem dX1_narrow_36 : decode cX1_narrow 36 = .ok (.invokestatic 36, 3) := by decide +kernel
theorem dX1_narrow_39 : decode cX1_narrow 39 = .ok (.putfield 9, 3) := by decide +kernel
theorem dX1_narrow_42 : decode cX1_narrow 42 = .ok (.iconst 1, 1) := by decide +kernel
theorem dX1_narrow_43 : decode cX1_narrow 43 = .ok (.ireturn, 1) := by decide +kernel
theorem dX1_restsIn_0 : decode cX1_restsIn 0 = .ok (.aload_n 0, 1) := by decide +kernel
theorem dX1_restsIn_1 : decode cX1_restsIn 1 = .ok (.getfield 15, 3) := by decide +kernel
theorem dX1_restsIn_4 : decode cX1_restsIn 4 = .ok (.iconst (-1), 1) := by decide +kernel
theorem dX1_restsIn_5 : decode cX1_restsIn 5 = .ok (.if_icmp .eq 28, 3) := by decide +kernel
theorem dX1_restsIn_8 : decode cX1_restsIn 8 = .ok (.aload_n 0, 1) := by decide +kernel
theorem dX1_restsIn_9 : decode cX1_restsIn 9 = .ok (.getfield 15, 3) := by decide +kernel
theorem dX1_restsIn_12 : decode cX1_restsIn 12 = .ok (.iload_n 1, 1) := by decide +kernel
theorem dX1_restsIn_13 : decode cX1_restsIn 13 = .ok (.if_icmp .eq 20, 3) := by decide +kernel
theorem dX1_restsIn_16 : decode cX1_restsIn 16 = .ok (.iload_n 1, 1) := by decide +kernel
theorem dX1_restsIn_17 : decode cX1_restsIn 17 = .ok (.aload_n 0, 1) := by decide +kernel
theorem dX1_restsIn_18 : decode cX1_restsIn 18 = .ok (.getfield 15, 3) := by decide +kernel
theorem dX1_restsIn_21 : decode cX1_restsIn 21 = .ok (.isub, 1) := by decide +kernel
theorem dX1_restsIn_22 : decode cX1_restsIn 22 = .ok (.aload_n 0, 1) := by decide +kernel
theorem dX1_restsIn_23 : decode cX1_restsIn 23 = .ok (.getfield 24, 3) := by decide +kernel
theorem dX1_restsIn_26 : decode cX1_restsIn 26 = .ok (.if_icmp .ge 7, 3) := by decide +kernel
theorem dX1_restsIn_29 : decode cX1_restsIn 29 = .ok (.iconst 1, 1) := by decide +kernel
theorem dX1_restsIn_30 : decode cX1_restsIn 30 = .ok (.goto 4, 3) := by decide +kernel
theorem dX1_restsIn_33 : decode cX1_restsIn 33 = .ok (.iconst 0, 1) := by decide +kernel
theorem dX1_restsIn_34 : decode cX1_restsIn 34 = .ok (.ireturn, 1) := by decide +kernel
theorem dX1_grow_0 : decode cX1_grow 0 = .ok (.aload_n 0, 1) := by decide +kernel
theorem dX1_grow_1 : decode cX1_grow 1 = .ok (.ldc 39, 2) := by decide +kernel
theorem dX1_grow_3 : decode cX1_grow 3 = .ok (.aload_n 0, 1) := by decide +kernel
theorem dX1_grow_4 : decode cX1_grow 4 = .ok (.getfield 18, 3) := by decide +kernel
theorem dX1_grow_7 : decode cX1_grow 7 = .ok (.aload_n 0, 1) := by decide +kernel
theorem dX1_grow_8 : decode cX1_grow 8 = .ok (.getfield 21, 3) := by decide +kernel
theorem dX1_grow_11 : decode cX1_grow 11 = .ok (.iadd, 1) := by decide +kernel
theorem dX1_grow_12 : decode cX1_grow 12 = .ok (.invokestatic 36, 3) := by decide +kernel
theorem dX1_grow_15 : decode cX1_grow 15 = .ok (.putfield 18, 3) := by decide +kernel
theorem dX1_grow_18 : decode cX1_grow 18 = .ok (.return_, 1) := by decide +kernel
theorem dX2_init_0 : decode cX2_init 0 = .ok (.aload_n 0, 1) := by decide +kernel
theorem dX2_init_1 : decode cX2_init 1 = .ok (.invokespecial 3, 3) := by decide +kernel
theorem dX2_init_4 : decode cX2_init 4 = .ok (.aload_n 0, 1) := by decide +kernel
theorem dX2_init_5 : decode cX2_init 5 = .ok (.bipush 40, 2) := by decide +kernel
theorem dX2_init_7 : decode cX2_init 7 = .ok (.newarray .int, 2) := by decide +kernel
theorem dX2_init_9 : decode cX2_init 9 = .ok (.putfield 9, 3) := by decide +kernel
theorem dX2_init_12 : decode cX2_init 12 = .ok (.aload_n 0, 1) := by decide +kernel
theorem dX2_init_13 : decode cX2_init 13 = .ok (.bipush 40, 2) := by decide +kernel
theorem dX2_init_15 : decode cX2_init 15 = .ok (.newarray .int, 2) := by decide +kernel
theorem dX2_init_17 : decode cX2_init 17 = .ok (.putfield 15, 3) := by decide +kernel
theorem dX2_init_20 : decode cX2_init 20 = .ok (.aload_n 0, 1) := by decide +kernel
theorem dX2_init_21 : decode cX2_init 21 = .ok (.bipush 40, 2) := by decide +kernel
theorem dX2_init_23 : decode cX2_init 23 = .ok (.newarray .int, 2) := by decide +kernel
theorem dX2_init_25 : decode cX2_init 25 = .ok (.putfield 18, 3) := by decide +kernel
theorem dX2_init_28 : decode cX2_init 28 = .ok (.aload_n 0, 1) := by decide +kernel
theorem dX2_init_29 : decode cX2_init 29 = .ok (.bipush 40, 2) := by decide +kernel
theorem dX2_init_31 : decode cX2_init 31 = .ok (.newarray .int, 2) := by decide +kernel
theorem dX2_init_33 : decode cX2_init 33 = .ok (.putfield 21, 3) := by decide +kernel
theorem dX2_init_36 : decode cX2_init 36 = .ok (.return_, 1) := by decide +kernel
theorem dX2_learn_0 : decode cX2_learn 0 = .ok (.aload_n 0, 1) := by decide +kernel
theorem dX2_learn_1 : decode cX2_learn 1 = .ok (.iconst 0, 1) := by decide +kernel
theorem dX2_learn_2 : decode cX2_learn 2 = .ok (.putfield 24, 3) := by decide +kernel
theorem dX2_learn_5 : decode cX2_learn 5 = .ok (.iconst 0, 1) := by decide +kernel
theorem dX2_learn_6 : decode cX2_learn 6 = .ok (.istore_n 2, 1) := by decide +kernel
theorem dX2_learn_7 : decode cX2_learn 7 = .ok (.iconst 0, 1) := by decide +kernel
theorem dX2_learn_8 : decode cX2_learn 8 = .ok (.istore_n 3, 1) := by decide +kernel
theorem dX2_learn_9 : decode cX2_learn 9 = .ok (.iload_n 3, 1) := by decide +kernel
theorem dX2_learn_10 : decode cX2_learn 10 = .ok (.aload_n 1, 1) := by decide +kernel
theorem dX2_learn_11 : decode cX2_learn 11 = .ok (.getfield 28, 3) := by decide +kernel
theorem dX2_learn_14 : decode cX2_learn 14 = .ok (.if_icmp .ge 60, 3) := by decide +kernel
theorem dX2_learn_17 : decode cX2_learn 17 = .ok (.aload_n 1, 1) := by decide +kernel
theorem dX2_learn_18 : decode cX2_learn 18 = .ok (.iload_n 3, 1) := by decide +kernel
theorem dX2_learn_19 : decode cX2_learn 19 = .ok (.invokevirtual 33, 3) := by decide +kernel
theorem dX2_learn_22 : decode cX2_learn 22 = .ok (.istore 4, 2) := by decide +kernel
theorem dX2_learn_24 : decode cX2_learn 24 = .ok (.iload 4, 2) := by decide +kernel
theorem dX2_learn_26 : decode cX2_learn 26 = .ok (.invokestatic 37, 3) := by decide +kernel
theorem dX2_learn_29 : decode cX2_learn 29 = .ok (.ifCond .eq 14, 3) := by decide +kernel
theorem dX2_learn_32 : decode cX2_learn 32 = .ok (.aload_n 0, 1) := by decide +kernel
theorem dX2_learn_33 : decode cX2_learn 33 = .ok (.iload 4, 2) := by decide +kernel
theorem dX2_learn_35 : decode cX2_learn 35 = .ok (.invokevirtual 41, 3) := by decide +kernel
theorem dX2_learn_38 : decode cX2_learn 38 = .ok (.iconst 0, 1) := by decide +kernel
theorem dX2_learn_39 : decode cX2_learn 39 = .ok (.istore_n 2, 1) := by decide +kernel
theorem dX2_learn_40 : decode cX2_learn 40 = .ok (.goto 28, 3) := by decide +kernel
theorem dX2_learn_43 : decode cX2_learn 43 = .ok (.iload 4, 2) := by decide +kernel
theorem dX2_learn_45 : decode cX2_learn 45 = .ok (.bipush 58, 2) := by decide +kernel
theorem dX2_learn_47 : decode cX2_learn 47 = .ok (.if_icmp .ne 8, 3) := by decide +kernel
theorem dX2_learn_50 : decode cX2_learn 50 = .ok (.iconst 1, 1) := by decide +kernel
theorem dX2_learn_51 : decode cX2_learn 51 = .ok (.istore_n 2, 1) := by decide +kernel
theorem dX2_learn_52 : decode cX2_learn 52 = .ok (.goto 16, 3) := by decide +kernel
theorem dX2_learn_55 : decode cX2_learn 55 = .ok (.aload_n 0, 1) := by decide +kernel
theorem dX2_learn_56 : decode cX2_learn 56 = .ok (.aload_n 0, 1) := by decide +kernel
theorem dX2_learn_57 : decode cX2_learn 57 = .ok (.getfield 24, 3) := by decide +kernel
theorem dX2_learn_60 : decode cX2_learn 60 = .ok (.iconst 1, 1) := by decide +kernel
theorem dX2_learn_61 : decode cX2_learn 61 = .ok (.isub, 1) := by decide +kernel
theorem dX2_learn_62 : decode cX2_learn 62 = .ok (.iload 4, 2) := by decide +kernel
theorem dX2_learn_64 : decode cX2_learn 64 = .ok (.iload_n 2, 1) := by decide +kernel
theorem dX2_learn_65 : decode cX2_learn 65 = .ok (.invokevirtual 45, 3) := by decide +kernel
theorem dX2_learn_68 : decode cX2_learn 68 = .ok (.iinc 3 1, 3) := by decide +kernel
theorem dX2_learn_71 : decode cX2_learn 71 = .ok (.goto (-62), 3) := by decide +kernel
theorem dX2_learn_74 : decode cX2_learn 74 = .ok (.return_, 1) := by decide +kernel
theorem dX2_open_0 : decode cX2_open 0 = .ok (.aload_n 0, 1) := by decide +kernel
theorem dX2_open_1 : decode cX2_open 1 = .ok (.getfield 24, 3) := by decide +kernel
theorem dX2_open_4 : decode cX2_open 4 = .ok (.aload_n 0, 1) := by decide +kernel
theorem dX2_open_5 : decode cX2_open 5 = .ok (.getfield 9, 3) := by decide +kernel
theorem dX2_open_8 : decode cX2_open 8 = .ok (.arraylength, 1) := by decide +kernel
theorem dX2_open_9 : decode cX2_open 9 = .ok (.if_icmp .ge 33, 3) := by decide +kernel
theorem dX2_open_12 : decode cX2_open 12 = .ok (.aload_n 0, 1) := by decide +kernel
theorem dX2_open_13 : decode cX2_open 13 = .ok (.getfield 9, 3) := by decide +kernel
theorem dX2_open_16 : decode cX2_open 16 = .ok (.aload_n 0, 1) := by decide +kernel
theorem dX2_open_17 : decode cX2_open 17 = .ok (.getfield 24, 3) := by decide +kernel
theorem dX2_open_20 : decode cX2_open 20 = .ok (.iload_n 1, 1) := by decide +kernel
theorem dX2_open_21 : decode cX2_open 21 = .ok (.iastore, 1) := by decide +kernel
theorem dX2_open_22 : decode cX2_open 22 = .ok (.aload_n 0, 1) := by decide +kernel
theorem dX2_open_23 : decode cX2_open 23 = .ok (.getfield 18, 3) := by decide +kernel
theorem dX2_open_26 : decode cX2_open 26 = .ok (.aload_n 0, 1) := by decide +kernel
theorem dX2_open_27 : decode cX2_open 27 = .ok (.getfield 24, 3) := by decide +kernel
theorem dX2_open_30 : decode cX2_open 30 = .ok (.iconst 0, 1) := by decide +kernel
theorem dX2_open_31 : decode cX2_open 31 = .ok (.iastore, 1) := by decide +kernel
theorem dX2_open_32 : decode cX2_open 32 = .ok (.aload_n 0, 1) := by decide +kernel
theorem dX2_open_33 : decode cX2_open 33 = .ok (.dup, 1) := by decide +kernel
theorem dX2_open_34 : decode cX2_open 34 = .ok (.getfield 24, 3) := by decide +kernel
theorem dX2_open_37 : decode cX2_open 37 = .ok (.iconst 1, 1) := by decide +kernel
theorem dX2_open_38 : decode cX2_open 38 = .ok (.iadd, 1) := by decide +kernel
theorem dX2_open_39 : decode cX2_open 39 = .ok (.putfield 24, 3) := by decide +kernel
theorem dX2_open_42 : decode cX2_open 42 = .ok (.return_, 1) := by decide +kernel
theorem dX2_learnWithin_0 : decode cX2_learnWithin 0 = .ok (.iload_n 1, 1) := by decide +kernel
theorem dX2_learnWithin_1 : decode cX2_learnWithin 1 = .ok (.ifCond .lt 12, 3) := by decide +kernel
theorem dX2_learnWithin_4 : decode cX2_learnWithin 4 = .ok (.iload_n 1, 1) := by decide +kernel
theorem dX2_learnWithin_5 : decode cX2_learnWithin 5 = .ok (.aload_n 0, 1) := by decide +kernel
theorem dX2_learnWithin_6 : decode cX2_learnWithin 6 = .ok (.getfield 9, 3) := by decide +kernel
theorem dX2_learnWithin_9 : decode cX2_learnWithin 9 = .ok (.arraylength, 1) := by decide +kernel
theorem dX2_learnWithin_10 : decode cX2_learnWithin 10 = .ok (.if_icmp .lt 4, 3) := by decide +kernel
theorem dX2_learnWithin_13 : decode cX2_learnWithin 13 = .ok (.return_, 1) := by decide +kernel
theorem dX2_learnWithin_14 : decode cX2_learnWithin 14 = .ok (.iload_n 2, 1) := by decide +kernel
theorem dX2_learnWithin_15 : decode cX2_learnWithin 15 = .ok (.invokestatic 49, 3) := by decide +kernel
theorem dX2_learnWithin_18 : decode cX2_learnWithin 18 = .ok (.ifCond .eq 13, 3) := by decide +kernel
theorem dX2_learnWithin_21 : decode cX2_learnWithin 21 = .ok (.aload_n 0, 1) := by decide +kernel
theorem dX2_learnWithin_22 : decode cX2_learnWithin 22 = .ok (.getfield 15, 3) := by decide +kernel
theorem dX2_learnWithin_25 : decode cX2_learnWithin 25 = .ok (.iload_n 1, 1) := by decide +kernel
theorem dX2_learnWithin_26 : decode cX2_learnWithin 26 = .ok (.iload_n 2, 1) := by decide +kernel
theorem dX2_learnWithin_27 : decode cX2_learnWithin 27 = .ok (.iastore, 1) := by decide +kernel
theorem dX2_learnWithin_28 : decode cX2_learnWithin 28 = .ok (.goto 54, 3) := by decide +kernel
theorem dX2_learnWithin_31 : decode cX2_learnWithin 31 = .ok (.iload_n 2, 1) := by decide +kernel
theorem dX2_learnWithin_32 : decode cX2_learnWithin 32 = .ok (.invokestatic 52, 3) := by decide +kernel
theorem dX2_learnWithin_35 : decode cX2_learnWithin 35 = .ok (.ifCond .eq 20, 3) := by decide +kernel
theorem dX2_learnWithin_38 : decode cX2_learnWithin 38 = .ok (.iload_n 3, 1) := by decide +kernel
theorem dX2_learnWithin_39 : decode cX2_learnWithin 39 = .ok (.ifCond .eq 16, 3) := by decide +kernel
theorem dX2_learnWithin_42 : decode cX2_learnWithin 42 = .ok (.aload_n 0, 1) := by decide +kernel
theorem dX2_learnWithin_43 : decode cX2_learnWithin 43 = .ok (.getfield 21, 3) := by decide +kernel
theorem dX2_learnWithin_46 : decode cX2_learnWithin 46 = .ok (.iload_n 1, 1) := by decide +kernel
theorem dX2_learnWithin_47 : decode cX2_learnWithin 47 = .ok (.iload_n 2, 1) := by decide +kernel
theorem dX2_learnWithin_48 : decode cX2_learnWithin 48 = .ok (.bipush 48, 2) := by decide +kernel
theorem dX2_learnWithin_50 : decode cX2_learnWithin 50 = .ok (.isub, 1) := by decide +kernel
theorem dX2_learnWithin_51 : decode cX2_learnWithin 51 = .ok (.iastore, 1) := by decide +kernel
theorem dX2_learnWithin_52 : decode cX2_learnWithin 52 = .ok (.goto 30, 3) := by decide +kernel
theorem dX2_learnWithin_55 : decode cX2_learnWithin 55 = .ok (.iload_n 2, 1) := by decide +kernel
theorem dX2_learnWithin_56 : decode cX2_learnWithin 56 = .ok (.invokestatic 52, 3) := by decide +kernel
theorem dX2_learnWithin_59 : decode cX2_learnWithin 59 = .ok (.ifCond .eq 23, 3) := by decide +kernel
theorem dX2_learnWithin_62 : decode cX2_learnWithin 62 = .ok (.aload_n 0, 1) := by decide +kernel
theorem dX2_learnWithin_63 : decode cX2_learnWithin 63 = .ok (.getfield 18, 3) := by decide +kernel
theorem dX2_learnWithin_66 : decode cX2_learnWithin 66 = .ok (.iload_n 1, 1) := by decide +kernel
theorem dX2_learnWithin_67 : decode cX2_learnWithin 67 = .ok (.aload_n 0, 1) := by decide +kernel
theorem dX2_learnWithin_68 : decode cX2_learnWithin 68 = .ok (.getfield 18, 3) := by decide +kernel
theorem dX2_learnWithin_71 : decode cX2_learnWithin 71 = .ok (.iload_n 1, 1) := by decide +kernel
theorem dX2_learnWithin_72 : decode cX2_learnWithin 72 = .ok (.iaload, 1) := by decide +kernel
theorem dX2_learnWithin_73 : decode cX2_learnWithin 73 = .ok (.bipush 10, 2) := by decide +kernel
theorem dX2_learnWithin_75 : decode cX2_learnWithin 75 = .ok (.imul, 1) := by decide +kernel
theorem dX2_learnWithin_76 : decode cX2_learnWithin 76 = .ok (.iload_n 2, 1) := by decide +kernel
theorem dX2_learnWithin_77 : decode cX2_learnWithin 77 = .ok (.iadd, 1) := by decide +kernel
theorem dX2_learnWithin_78 : decode cX2_learnWithin 78 = .ok (.bipush 48, 2) := by decide +kernel
theorem dX2_learnWithin_80 : decode cX2_learnWithin 80 = .ok (.isub, 1) := by decide +kernel
theorem dX2_learnWithin_81 : decode cX2_learnWithin 81 = .ok (.iastore, 1) := by decide +kernel
theorem dX2_learnWithin_82 : decode cX2_learnWithin 82 = .ok (.return_, 1) := by decide +kernel
theorem dX2_airFor_0 : decode cX2_airFor 0 = .ok (.iconst 0, 1) := by decide +kernel
theorem dX2_airFor_1 : decode cX2_airFor 1 = .ok (.istore_n 2, 1) := by decide +kernel
theorem dX2_airFor_2 : decode cX2_airFor 2 = .ok (.iload_n 2, 1) := by decide +kernel
theorem dX2_airFor_3 : decode cX2_airFor 3 = .ok (.aload_n 0, 1) := by decide +kernel
theorem dX2_airFor_4 : decode cX2_airFor 4 = .ok (.getfield 24, 3) := by decide +kernel
theorem dX2_airFor_7 : decode cX2_airFor 7 = .ok (.if_icmp .ge 53, 3) := by decide +kernel
theorem dX2_airFor_10 : decode cX2_airFor 10 = .ok (.iload_n 2, 1) := by decide +kernel
theorem dX2_airFor_11 : decode cX2_airFor 11 = .ok (.aload_n 0, 1) := by decide +kernel
theorem dX2_airFor_12 : decode cX2_airFor 12 = .ok (.getfield 9, 3) := by decide +kernel
theorem dX2_airFor_15 : decode cX2_airFor 15 = .ok (.arraylength, 1) := by decide +kernel
theorem dX2_airFor_16 : decode cX2_airFor 16 = .ok (.if_icmp .ge 44, 3) := by decide +kernel
theorem dX2_airFor_19 : decode cX2_airFor 19 = .ok (.aload_n 0, 1) := by decide +kernel
theorem dX2_airFor_20 : decode cX2_airFor 20 = .ok (.getfield 15, 3) := by decide +kernel
theorem dX2_airFor_23 : decode cX2_airFor 23 = .ok (.iload_n 2, 1) := by decide +kernel
theorem dX2_airFor_24 : decode cX2_airFor 24 = .ok (.iaload, 1) := by decide +kernel
theorem dX2_airFor_25 : decode cX2_airFor 25 = .ok (.aload_n 0, 1) := by decide +kernel
theorem dX2_airFor_26 : decode cX2_airFor 26 = .ok (.getfield 9, 3) := by decide +kernel
theorem dX2_airFor_29 : decode cX2_airFor 29 = .ok (.iload_n 2, 1) := by decide +kernel
theorem dX2_airFor_30 : decode cX2_airFor 30 = .ok (.iaload, 1) := by decide +kernel
theorem dX2_airFor_31 : decode cX2_airFor 31 = .ok (.aload_n 1, 1) := by decide +kernel
theorem dX2_airFor_32 : decode cX2_airFor 32 = .ok (.invokestatic 55, 3) := by decide +kernel
theorem dX2_airFor_35 : decode cX2_airFor 35 = .ok (.aload_n 0, 1) := by decide +kernel
theorem dX2_airFor_36 : decode cX2_airFor 36 = .ok (.getfield 18, 3) := by decide +kernel
theorem dX2_airFor_39 : decode cX2_airFor 39 = .ok (.iload_n 2, 1) := by decide +kernel
theorem dX2_airFor_40 : decode cX2_airFor 40 = .ok (.iaload, 1) := by decide +kernel
theorem dX2_airFor_41 : decode cX2_airFor 41 = .ok (.invokestatic 59, 3) := by decide +kernel
theorem dX2_airFor_44 : decode cX2_airFor 44 = .ok (.ifCond .eq 10, 3) := by decide +kernel
theorem dX2_airFor_47 : decode cX2_airFor 47 = .ok (.aload_n 0, 1) := by decide +kernel
theorem dX2_airFor_48 : decode cX2_airFor 48 = .ok (.getfield 21, 3) := by decide +kernel
theorem dX2_airFor_51 : decode cX2_airFor 51 = .ok (.iload_n 2, 1) := by decide +kernel
theorem dX2_airFor_52 : decode cX2_airFor 52 = .ok (.iaload, 1) := by decide +kernel
theorem dX2_airFor_53 : decode cX2_airFor 53 = .ok (.ireturn, 1) := by decide +kernel
theorem dX2_airFor_54 : decode cX2_airFor 54 = .ok (.iinc 2 1, 3) := by decide +kernel
theorem dX2_airFor_57 : decode cX2_airFor 57 = .ok (.goto (-55), 3) := by decide +kernel
theorem dX2_airFor_60 : decode cX2_airFor 60 = .ok (.aload_n 1, 1) := by decide +kernel
theorem dX2_airFor_61 : decode cX2_airFor 61 = .ok (.getfield 63, 3) := by decide +kernel
theorem dX2_airFor_64 : decode cX2_airFor 64 = .ok (.ireturn, 1) := by decide +kernel
theorem dX2_reading_0 : decode cX2_reading 0 = .ok (.iload_n 0, 1) := by decide +kernel
theorem dX2_reading_1 : decode cX2_reading 1 = .ok (.lookupswitch 50 #[(99, 45), (104, 35), (109, 40)], 35) := by decide +kernel
theorem dX2_reading_36 : decode cX2_reading 36 = .ok (.aload_n 1, 1) := by decide +kernel
theorem dX2_reading_37 : decode cX2_reading 37 = .ok (.getfield 68, 3) := by decide +kernel
theorem dX2_reading_40 : decode cX2_reading 40 = .ok (.ireturn, 1) := by decide +kernel
theorem dX2_reading_41 : decode cX2_reading 41 = .ok (.aload_n 1, 1) := by decide +kernel
theorem dX2_reading_42 : decode cX2_reading 42 = .ok (.getfield 71, 3) := by decide +kernel
theorem dX2_reading_45 : decode cX2_reading 45 = .ok (.ireturn, 1) := by decide +kernel
theorem dX2_reading_46 : decode cX2_reading 46 = .ok (.aload_n 1, 1) := by decide +kernel
theorem dX2_reading_47 : decode cX2_reading 47 = .ok (.getfield 74, 3) := by decide +kernel
theorem dX2_reading_50 : decode cX2_reading 50 = .ok (.ireturn, 1) := by decide +kernel
theorem dX2_reading_51 : decode cX2_reading 51 = .ok (.aload_n 1, 1) := by decide +kernel
theorem dX2_reading_52 : decode cX2_reading 52 = .ok (.getfield 77, 3) := by decide +kernel
theorem dX2_reading_55 : decode cX2_reading 55 = .ok (.ireturn, 1) := by decide +kernel
theorem dX2_holds_0 : decode cX2_holds 0 = .ok (.iload_n 0, 1) := by decide +kernel
theorem dX2_holds_1 : decode cX2_holds 1 = .ok (.lookupswitch 49 #[(60, 38), (61, 27)], 27) := by decide +kernel
theorem dX2_holds_28 : decode cX2_holds 28 = .ok (.iload_n 1, 1) := by decide +kernel
theorem dX2_holds_29 : decode cX2_holds 29 = .ok (.iload_n 2, 1) := by decide +kernel
theorem dX2_holds_30 : decode cX2_holds 30 = .ok (.if_icmp .ne 7, 3) := by decide +kernel
theorem dX2_holds_33 : decode cX2_holds 33 = .ok (.iconst 1, 1) := by decide +kernel
theorem dX2_holds_34 : decode cX2_holds 34 = .ok (.goto 4, 3) := by decide +kernel
theorem dX2_holds_37 : decode cX2_holds 37 = .ok (.iconst 0, 1) := by decide +kernel
theorem dX2_holds_38 : decode cX2_holds 38 = .ok (.ireturn, 1) := by decide +kernel
theorem dX2_holds_39 : decode cX2_holds 39 = .ok (.iload_n 1, 1) := by decide +kernel
theorem dX2_holds_40 : decode cX2_holds 40 = .ok (.iload_n 2, 1) := by decide +kernel
theorem dX2_holds_41 : decode cX2_holds 41 = .ok (.if_icmp .ge 7, 3) := by decide +kernel
theorem dX2_holds_44 : decode cX2_holds 44 = .ok (.iconst 1, 1) := by decide +kernel
theorem dX2_holds_45 : decode cX2_holds 45 = .ok (.goto 4, 3) := by decide +kernel
theorem dX2_holds_48 : decode cX2_holds 48 = .ok (.iconst 0, 1) := by decide +kernel
theorem dX2_holds_49 : decode cX2_holds 49 = .ok (.ireturn, 1) := by decide +kernel
theorem dX2_holds_50 : decode cX2_holds 50 = .ok (.iload_n 1, 1) := by decide +kernel
theorem dX2_holds_51 : decode cX2_holds 51 = .ok (.iload_n 2, 1) := by decide +kernel
theorem dX2_holds_52 : decode cX2_holds 52 = .ok (.if_icmp .le 7, 3) := by decide +kernel
theorem dX2_holds_55 : decode cX2_holds 55 = .ok (.iconst 1, 1) := by decide +kernel
theorem dX2_holds_56 : decode cX2_holds 56 = .ok (.goto 4, 3) := by decide +kernel
theorem dX2_holds_59 : decode cX2_holds 59 = .ok (.iconst 0, 1) := by decide +kernel
theorem dX2_holds_60 : decode cX2_holds 60 = .ok (.ireturn, 1) := by decide +kernel
theorem dX3_init_0 : decode cX3_init 0 = .ok (.aload_n 0, 1) := by decide +kernel
theorem dX3_init_1 : decode cX3_init 1 = .ok (.invokespecial 3, 3) := by decide +kernel
theorem dX3_init_4 : decode cX3_init 4 = .ok (.aload_n 0, 1) := by decide +kernel
theorem dX3_init_5 : decode cX3_init 5 = .ok (.bipush 12, 2) := by decide +kernel
theorem dX3_init_7 : decode cX3_init 7 = .ok (.newarray .int, 2) := by decide +kernel
theorem dX3_init_9 : decode cX3_init 9 = .ok (.putfield 9, 3) := by decide +kernel
theorem dX3_init_12 : decode cX3_init 12 = .ok (.aload_n 0, 1) := by decide +kernel
theorem dX3_init_13 : decode cX3_init 13 = .ok (.bipush 12, 2) := by decide +kernel
theorem dX3_init_15 : decode cX3_init 15 = .ok (.newarray .int, 2) := by decide +kernel
theorem dX3_init_17 : decode cX3_init 17 = .ok (.putfield 15, 3) := by decide +kernel
theorem dX3_init_20 : decode cX3_init 20 = .ok (.aload_n 0, 1) := by decide +kernel
theorem dX3_init_21 : decode cX3_init 21 = .ok (.bipush 8, 2) := by decide +kernel
theorem dX3_init_23 : decode cX3_init 23 = .ok (.newarray .int, 2) := by decide +kernel
theorem dX3_init_25 : decode cX3_init 25 = .ok (.putfield 18, 3) := by decide +kernel
theorem dX3_init_28 : decode cX3_init 28 = .ok (.aload_n 0, 1) := by decide +kernel
theorem dX3_init_29 : decode cX3_init 29 = .ok (.iconst (-1), 1) := by decide +kernel
theorem dX3_init_30 : decode cX3_init 30 = .ok (.putfield 21, 3) := by decide +kernel
theorem dX3_init_33 : decode cX3_init 33 = .ok (.aload_n 0, 1) := by decide +kernel
theorem dX3_init_34 : decode cX3_init 34 = .ok (.bipush 9, 2) := by decide +kernel
theorem dX3_init_36 : decode cX3_init 36 = .ok (.putfield 25, 3) := by decide +kernel
theorem dX3_init_39 : decode cX3_init 39 = .ok (.aload_n 0, 1) := by decide +kernel
theorem dX3_init_40 : decode cX3_init 40 = .ok (.iconst 1, 1) := by decide +kernel
theorem dX3_init_41 : decode cX3_init 41 = .ok (.putfield 28, 3) := by decide +kernel
theorem dX3_init_44 : decode cX3_init 44 = .ok (.return_, 1) := by decide +kernel
theorem dX3_isFilled_0 : decode cX3_isFilled 0 = .ok (.aload_n 0, 1) := by decide +kernel
theorem dX3_isFilled_1 : decode cX3_isFilled 1 = .ok (.getfield 31, 3) := by decide +kernel
theorem dX3_isFilled_4 : decode cX3_isFilled 4 = .ok (.ifCond .ne 20, 3) := by decide +kernel
theorem dX3_isFilled_7 : decode cX3_isFilled 7 = .ok (.aload_n 0, 1) := by decide +kernel
theorem dX3_isFilled_8 : decode cX3_isFilled 8 = .ok (.getfield 34, 3) := by decide +kernel
theorem dX3_isFilled_11 : decode cX3_isFilled 11 = .ok (.ifCond .ne 13, 3) := by decide +kernel
theorem dX3_isFilled_14 : decode cX3_isFilled 14 = .ok (.aload_n 0, 1) := by decide +kernel
theorem dX3_isFilled_15 : decode cX3_isFilled 15 = .ok (.getfield 15, 3) := by decide +kernel
theorem dX3_isFilled_18 : decode cX3_isFilled 18 = .ok (.invokestatic 37, 3) := by decide +kernel
theorem dX3_isFilled_21 : decode cX3_isFilled 21 = .ok (.ifCond .eq 7, 3) := by decide +kernel
theorem dX3_isFilled_24 : decode cX3_isFilled 24 = .ok (.iconst 1, 1) := by decide +kernel
theorem dX3_isFilled_25 : decode cX3_isFilled 25 = .ok (.goto 4, 3) := by decide +kernel
theorem dX3_isFilled_28 : decode cX3_isFilled 28 = .ok (.iconst 0, 1) := by decide +kernel
theorem dX3_isFilled_29 : decode cX3_isFilled 29 = .ok (.ireturn, 1) := by decide +kernel
theorem dX3_passMinute_0 : decode cX3_passMinute 0 = .ok (.aload_n 0, 1) := by decide +kernel
theorem dX3_passMinute_1 : decode cX3_passMinute 1 = .ok (.getfield 28, 3) := by decide +kernel
theorem dX3_passMinute_4 : decode cX3_passMinute 4 = .ok (.ifCond .le 23, 3) := by decide +kernel
theorem dX3_passMinute_7 : decode cX3_passMinute 7 = .ok (.aload_n 0, 1) := by decide +kernel
theorem dX3_passMinute_8 : decode cX3_passMinute 8 = .ok (.getfield 41, 3) := by decide +kernel
theorem dX3_passMinute_11 : decode cX3_passMinute 11 = .ok (.aload_n 0, 1) := by decide +kernel
theorem dX3_passMinute_12 : decode cX3_passMinute 12 = .ok (.getfield 28, 3) := by decide +kernel
theorem dX3_passMinute_15 : decode cX3_passMinute 15 = .ok (.irem, 1) := by decide +kernel
theorem dX3_passMinute_16 : decode cX3_passMinute 16 = .ok (.ifCond .ne 11, 3) := by decide +kernel
theorem dX3_passMinute_19 : decode cX3_passMinute 19 = .ok (.aload_n 0, 1) := by decide +kernel
theorem dX3_passMinute_20 : decode cX3_passMinute 20 = .ok (.aload_n 0, 1) := by decide +kernel
theorem dX3_passMinute_21 : decode cX3_passMinute 21 = .ok (.getfield 44, 3) := by decide +kernel
theorem dX3_passMinute_24 : decode cX3_passMinute 24 = .ok (.putfield 47, 3) := by decide +kernel
theorem dX3_passMinute_27 : decode cX3_passMinute 27 = .ok (.aload_n 0, 1) := by decide +kernel
theorem dX3_passMinute_28 : decode cX3_passMinute 28 = .ok (.aload_n 1, 1) := by decide +kernel
theorem dX3_passMinute_29 : decode cX3_passMinute 29 = .ok (.aload_n 0, 1) := by decide +kernel
theorem dX3_passMinute_30 : decode cX3_passMinute 30 = .ok (.invokevirtual 50, 3) := by decide +kernel
theorem dX3_passMinute_33 : decode cX3_passMinute 33 = .ok (.putfield 56, 3) := by decide +kernel
theorem dX3_passMinute_36 : decode cX3_passMinute 36 = .ok (.aload_n 0, 1) := by decide +kernel
theorem dX3_passMinute_37 : decode cX3_passMinute 37 = .ok (.getfield 56, 3) := by decide +kernel
theorem dX3_passMinute_40 : decode cX3_passMinute 40 = .ok (.aload_n 0, 1) := by decide +kernel
theorem dX3_passMinute_41 : decode cX3_passMinute 41 = .ok (.getfield 25, 3) := by decide +kernel
theorem dX3_passMinute_44 : decode cX3_passMinute 44 = .ok (.invokestatic 59, 3) := by decide +kernel
theorem dX3_passMinute_47 : decode cX3_passMinute 47 = .ok (.aload_n 0, 1) := by decide +kernel
theorem dX3_passMinute_48 : decode cX3_passMinute 48 = .ok (.getfield 34, 3) := by decide +kernel
theorem dX3_passMinute_51 : decode cX3_passMinute 51 = .ok (.invokestatic 59, 3) := by decide +kernel
theorem dX3_passMinute_54 : decode cX3_passMinute 54 = .ok (.istore_n 3, 1) := by decide +kernel
theorem dX3_passMinute_55 : decode cX3_passMinute 55 = .ok (.aload_n 0, 1) := by decide +kernel
theorem dX3_passMinute_56 : decode cX3_passMinute 56 = .ok (.dup, 1) := by decide +kernel
theorem dX3_passMinute_57 : decode cX3_passMinute 57 = .ok (.getfield 34, 3) := by decide +kernel
theorem dX3_passMinute_60 : decode cX3_passMinute 60 = .ok (.iload_n 3, 1) := by decide +kernel
theorem dX3_passMinute_61 : decode cX3_passMinute 61 = .ok (.isub, 1) := by decide +kernel
theorem dX3_passMinute_62 : decode cX3_passMinute 62 = .ok (.putfield 34, 3) := by decide +kernel
theorem dX3_passMinute_65 : decode cX3_passMinute 65 = .ok (.aload_n 0, 1) := by decide +kernel
theorem dX3_passMinute_66 : decode cX3_passMinute 66 = .ok (.dup, 1) := by decide +kernel
theorem dX3_passMinute_67 : decode cX3_passMinute 67 = .ok (.getfield 65, 3) := by decide +kernel
theorem dX3_passMinute_70 : decode cX3_passMinute 70 = .ok (.iload_n 3, 1) := by decide +kernel
theorem dX3_passMinute_71 : decode cX3_passMinute 71 = .ok (.iadd, 1) := by decide +kernel
theorem dX3_passMinute_72 : decode cX3_passMinute 72 = .ok (.putfield 65, 3) := by decide +kernel
theorem dX3_passMinute_75 : decode cX3_passMinute 75 = .ok (.aload_n 0, 1) := by decide +kernel
theorem dX3_passMinute_76 : decode cX3_passMinute 76 = .ok (.dup, 1) := by decide +kernel
theorem dX3_passMinute_77 : decode cX3_passMinute 77 = .ok (.getfield 44, 3) := by decide +kernel
theorem dX3_passMinute_80 : decode cX3_passMinute 80 = .ok (.bipush 12, 2) := by decide +kernel
theorem dX3_passMinute_82 : decode cX3_passMinute 82 = .ok (.iload_n 3, 1) := by decide +kernel
theorem dX3_passMinute_83 : decode cX3_passMinute 83 = .ok (.imul, 1) := by decide +kernel
theorem dX3_passMinute_84 : decode cX3_passMinute 84 = .ok (.iadd, 1) := by decide +kernel
theorem dX3_passMinute_85 : decode cX3_passMinute 85 = .ok (.putfield 44, 3) := by decide +kernel
theorem dX3_passMinute_88 : decode cX3_passMinute 88 = .ok (.aload_n 0, 1) := by decide +kernel
theorem dX3_passMinute_89 : decode cX3_passMinute 89 = .ok (.iconst 0, 1) := by decide +kernel
theorem dX3_passMinute_90 : decode cX3_passMinute 90 = .ok (.aload_n 0, 1) := by decide +kernel
theorem dX3_passMinute_91 : decode cX3_passMinute 91 = .ok (.getfield 44, 3) := by decide +kernel
theorem dX3_passMinute_94 : decode cX3_passMinute 94 = .ok (.aload_n 0, 1) := by decide +kernel
theorem dX3_passMinute_95 : decode cX3_passMinute 95 = .ok (.getfield 44, 3) := by decide +kernel
theorem dX3_passMinute_98 : decode cX3_passMinute 98 = .ok (.bipush 40, 2) := by decide +kernel
theorem dX3_passMinute_100 : decode cX3_passMinute 100 = .ok (.idiv, 1) := by decide +kernel
theorem dX3_passMinute_101 : decode cX3_passMinute 101 = .ok (.isub, 1) := by decide +kernel
theorem dX3_passMinute_102 : decode cX3_passMinute 102 = .ok (.iconst 2, 1) := by decide +kernel
theorem dX3_passMinute_103 : decode cX3_passMinute 103 = .ok (.isub, 1) := by decide +kernel
theorem dX3_passMinute_104 : decode cX3_passMinute 104 = .ok (.invokestatic 68, 3) := by decide +kernel
theorem dX3_passMinute_107 : decode cX3_passMinute 107 = .ok (.putfield 44, 3) := by decide +kernel
theorem dX3_passMinute_110 : decode cX3_passMinute 110 = .ok (.iload_n 3, 1) := by decide +kernel
theorem dX3_passMinute_111 : decode cX3_passMinute 111 = .ok (.ifCond .le 36, 3) := by decide +kernel
theorem dX3_passMinute_114 : decode cX3_passMinute 114 = .ok (.aload_n 0, 1) := by decide +kernel
theorem dX3_passMinute_115 : decode cX3_passMinute 115 = .ok (.getfield 44, 3) := by decide +kernel
theorem dX3_passMinute_118 : decode cX3_passMinute 118 = .ok (.sipush 1000, 3) := by decide +kernel
theorem dX3_passMinute_121 : decode cX3_passMinute 121 = .ok (.if_icmp .lt 26, 3) := by decide +kernel
theorem dX3_passMinute_124 : decode cX3_passMinute 124 = .ok (.aload_n 0, 1) := by decide +kernel
theorem dX3_passMinute_125 : decode cX3_passMinute 125 = .ok (.getfield 44, 3) := by decide +kernel
theorem dX3_passMinute_128 : decode cX3_passMinute 128 = .ok (.sipush 1300, 3) := by decide +kernel
theorem dX3_passMinute_131 : decode cX3_passMinute 131 = .ok (.if_icmp .gt 16, 3) := by decide +kernel
theorem dX3_passMinute_134 : decode cX3_passMinute 134 = .ok (.aload_n 0, 1) := by decide +kernel
theorem dX3_passMinute_135 : decode cX3_passMinute 135 = .ok (.iconst 3, 1) := by decide +kernel
theorem dX3_passMinute_136 : decode cX3_passMinute 136 = .ok (.aload_n 0, 1) := by decide +kernel
theorem dX3_passMinute_137 : decode cX3_passMinute 137 = .ok (.getfield 31, 3) := by decide +kernel
theorem dX3_passMinute_140 : decode cX3_passMinute 140 = .ok (.invokestatic 59, 3) := by decide +kernel
theorem dX3_passMinute_143 : decode cX3_passMinute 143 = .ok (.aload_n 2, 1) := by decide +kernel
theorem dX3_passMinute_144 : decode cX3_passMinute 144 = .ok (.invokevirtual 71, 3) := by decide +kernel
theorem dX3_passMinute_147 : decode cX3_passMinute 147 = .ok (.aload_n 0, 1) := by decide +kernel
theorem dX3_passMinute_148 : decode cX3_passMinute 148 = .ok (.getfield 44, 3) := by decide +kernel
theorem dX3_passMinute_151 : decode cX3_passMinute 151 = .ok (.sipush 1300, 3) := by decide +kernel
theorem dX3_passMinute_154 : decode cX3_passMinute 154 = .ok (.if_icmp .le 7, 3) := by decide +kernel
theorem dX3_passMinute_157 : decode cX3_passMinute 157 = .ok (.aload_n 0, 1) := by decide +kernel
theorem dX3_passMinute_158 : decode cX3_passMinute 158 = .ok (.invokevirtual 75, 3) := by decide +kernel
theorem dX3_passMinute_161 : decode cX3_passMinute 161 = .ok (.aload_n 0, 1) := by decide +kernel
theorem dX3_passMinute_162 : decode cX3_passMinute 162 = .ok (.dup, 1) := by decide +kernel
theorem dX3_passMinute_163 : decode cX3_passMinute 163 = .ok (.getfield 41, 3) := by decide +kernel
theorem dX3_passMinute_166 : decode cX3_passMinute 166 = .ok (.iconst 1, 1) := by decide +kernel
theorem dX3_passMinute_167 : decode cX3_passMinute 167 = .ok (.iadd, 1) := by decide +kernel
theorem dX3_passMinute_168 : decode cX3_passMinute 168 = .ok (.putfield 41, 3) := by decide +kernel
theorem dX3_passMinute_171 : decode cX3_passMinute 171 = .ok (.return_, 1) := by decide +kernel
theorem dX3_reduce_0 : decode cX3_reduce 0 = .ok (.iload_n 1, 1) := by decide +kernel
theorem dX3_reduce_1 : decode cX3_reduce 1 = .ok (.ifCond .le 26, 3) := by decide +kernel
theorem dX3_reduce_4 : decode cX3_reduce 4 = .ok (.aload_n 2, 1) := by decide +kernel
theorem dX3_reduce_5 : decode cX3_reduce 5 = .ok (.iload_n 1, 1) := by decide +kernel
theorem dX3_reduce_6 : decode cX3_reduce 6 = .ok (.aload_n 0, 1) := by decide +kernel
theorem dX3_reduce_7 : decode cX3_reduce 7 = .ok (.getfield 9, 3) := by decide +kernel
theorem dX3_reduce_10 : decode cX3_reduce 10 = .ok (.aload_n 0, 1) := by decide +kernel
theorem dX3_reduce_11 : decode cX3_reduce 11 = .ok (.getfield 15, 3) := by decide +kernel
theorem dX3_reduce_14 : decode cX3_reduce 14 = .ok (.invokevirtual 78, 3) := by decide +kernel
theorem dX3_reduce_17 : decode cX3_reduce 17 = .ok (.aload_n 0, 1) := by decide +kernel
theorem dX3_reduce_18 : decode cX3_reduce 18 = .ok (.dup, 1) := by decide +kernel
theorem dX3_reduce_19 : decode cX3_reduce 19 = .ok (.getfield 31, 3) := by decide +kernel
theorem dX3_reduce_22 : decode cX3_reduce 22 = .ok (.iload_n 1, 1) := by decide +kernel
theorem dX3_reduce_23 : decode cX3_reduce 23 = .ok (.isub, 1) := by decide +kernel
theorem dX3_reduce_24 : decode cX3_reduce 24 = .ok (.putfield 31, 3) := by decide +kernel
theorem dX3_reduce_27 : decode cX3_reduce 27 = .ok (.return_, 1) := by decide +kernel
theorem dX3_noteScorch_0 : decode cX3_noteScorch 0 = .ok (.aload_n 0, 1) := by decide +kernel
theorem dX3_noteScorch_1 : decode cX3_noteScorch 1 = .ok (.getfield 84, 3) := by decide +kernel
theorem dX3_noteScorch_4 : decode cX3_noteScorch 4 = .ok (.ifCond .ne 11, 3) := by decide +kernel
theorem dX3_noteScorch_7 : decode cX3_noteScorch 7 = .ok (.aload_n 0, 1) := by decide +kernel
theorem dX3_noteScorch_8 : decode cX3_noteScorch 8 = .ok (.aload_n 0, 1) := by decide +kernel
theorem dX3_noteScorch_9 : decode cX3_noteScorch 9 = .ok (.getfield 41, 3) := by decide +kernel
theorem dX3_noteScorch_12 : decode cX3_noteScorch 12 = .ok (.putfield 21, 3) := by decide +kernel
theorem dX3_noteScorch_15 : decode cX3_noteScorch 15 = .ok (.aload_n 0, 1) := by decide +kernel
theorem dX3_noteScorch_16 : decode cX3_noteScorch 16 = .ok (.dup, 1) := by decide +kernel
theorem dX3_noteScorch_17 : decode cX3_noteScorch 17 = .ok (.getfield 84, 3) := by decide +kernel
theorem dX3_noteScorch_20 : decode cX3_noteScorch 20 = .ok (.iconst 1, 1) := by decide +kernel
theorem dX3_noteScorch_21 : decode cX3_noteScorch 21 = .ok (.iadd, 1) := by decide +kernel
theorem dX3_noteScorch_22 : decode cX3_noteScorch 22 = .ok (.putfield 84, 3) := by decide +kernel
theorem dX3_noteScorch_25 : decode cX3_noteScorch 25 = .ok (.return_, 1) := by decide +kernel
theorem dX3_sortOfBloom_0 : decode cX3_sortOfBloom 0 = .ok (.aload_n 0, 1) := by decide +kernel
theorem dX3_sortOfBloom_1 : decode cX3_sortOfBloom 1 = .ok (.getfield 84, 3) := by decide +kernel
theorem dX3_sortOfBloom_4 : decode cX3_sortOfBloom 4 = .ok (.ifCond .ne 5, 3) := by decide +kernel
theorem dX3_sortOfBloom_7 : decode cX3_sortOfBloom 7 = .ok (.iconst 0, 1) := by decide +kernel
theorem dX3_sortOfBloom_8 : decode cX3_sortOfBloom 8 = .ok (.ireturn, 1) := by decide +kernel
theorem dX3_sortOfBloom_9 : decode cX3_sortOfBloom 9 = .ok (.aload_n 0, 1) := by decide +kernel
theorem dX3_sortOfBloom_10 : decode cX3_sortOfBloom 10 = .ok (.getfield 84, 3) := by decide +kernel
theorem dX3_sortOfBloom_13 : decode cX3_sortOfBloom 13 = .ok (.bipush 10, 2) := by decide +kernel
theorem dX3_sortOfBloom_15 : decode cX3_sortOfBloom 15 = .ok (.if_icmp .gt 7, 3) := by decide +kernel
theorem dX3_sortOfBloom_18 : decode cX3_sortOfBloom 18 = .ok (.iconst 1, 1) := by decide +kernel
theorem dX3_sortOfBloom_19 : decode cX3_sortOfBloom 19 = .ok (.goto 4, 3) := by decide +kernel
theorem dX3_sortOfBloom_22 : decode cX3_sortOfBloom 22 = .ok (.iconst 2, 1) := by decide +kernel
theorem dX3_sortOfBloom_23 : decode cX3_sortOfBloom 23 = .ok (.ireturn, 1) := by decide +kernel
theorem dX3_empty_0 : decode cX3_empty 0 = .ok (.aload_n 0, 1) := by decide +kernel
theorem dX3_empty_1 : decode cX3_empty 1 = .ok (.getfield 9, 3) := by decide +kernel
theorem dX3_empty_4 : decode cX3_empty 4 = .ok (.iconst 0, 1) := by decide +kernel
theorem dX3_empty_5 : decode cX3_empty 5 = .ok (.invokestatic 87, 3) := by decide +kernel
theorem dX3_empty_8 : decode cX3_empty 8 = .ok (.aload_n 0, 1) := by decide +kernel
theorem dX3_empty_9 : decode cX3_empty 9 = .ok (.getfield 15, 3) := by decide +kernel
theorem dX3_empty_12 : decode cX3_empty 12 = .ok (.iconst 0, 1) := by decide +kernel
theorem dX3_empty_13 : decode cX3_empty 13 = .ok (.invokestatic 87, 3) := by decide +kernel
theorem dX3_empty_16 : decode cX3_empty 16 = .ok (.aload_n 0, 1) := by decide +kernel
theorem dX3_empty_17 : decode cX3_empty 17 = .ok (.getfield 18, 3) := by decide +kernel
theorem dX3_empty_20 : decode cX3_empty 20 = .ok (.iconst 0, 1) := by decide +kernel
theorem dX3_empty_21 : decode cX3_empty 21 = .ok (.invokestatic 87, 3) := by decide +kernel
theorem dX3_empty_24 : decode cX3_empty 24 = .ok (.aload_n 0, 1) := by decide +kernel
theorem dX3_empty_25 : decode cX3_empty 25 = .ok (.iconst 0, 1) := by decide +kernel
theorem dX3_empty_26 : decode cX3_empty 26 = .ok (.putfield 31, 3) := by decide +kernel
theorem dX3_empty_29 : decode cX3_empty 29 = .ok (.aload_n 0, 1) := by decide +kernel
theorem dX3_empty_30 : decode cX3_empty 30 = .ok (.iconst 0, 1) := by decide +kernel
theorem dX3_empty_31 : decode cX3_empty 31 = .ok (.putfield 34, 3) := by decide +kernel
theorem dX3_empty_34 : decode cX3_empty 34 = .ok (.aload_n 0, 1) := by decide +kernel
theorem dX3_empty_35 : decode cX3_empty 35 = .ok (.iconst 0, 1) := by decide +kernel
theorem dX3_empty_36 : decode cX3_empty 36 = .ok (.putfield 65, 3) := by decide +kernel
theorem dX3_empty_39 : decode cX3_empty 39 = .ok (.aload_n 0, 1) := by decide +kernel
theorem dX3_empty_40 : decode cX3_empty 40 = .ok (.iconst 0, 1) := by decide +kernel
theorem dX3_empty_41 : decode cX3_empty 41 = .ok (.putfield 44, 3) := by decide +kernel
theorem dX3_empty_44 : decode cX3_empty 44 = .ok (.aload_n 0, 1) := by decide +kernel
theorem dX3_empty_45 : decode cX3_empty 45 = .ok (.iconst 0, 1) := by decide +kernel
theorem dX3_empty_46 : decode cX3_empty 46 = .ok (.putfield 41, 3) := by decide +kernel
theorem dX3_empty_49 : decode cX3_empty 49 = .ok (.aload_n 0, 1) := by decide +kernel
theorem dX3_empty_50 : decode cX3_empty 50 = .ok (.iconst 0, 1) := by decide +kernel
theorem dX3_empty_51 : decode cX3_empty 51 = .ok (.putfield 47, 3) := by decide +kernel
theorem dX3_empty_54 : decode cX3_empty 54 = .ok (.aload_n 0, 1) := by decide +kernel
theorem dX3_empty_55 : decode cX3_empty 55 = .ok (.iconst 0, 1) := by decide +kernel
theorem dX3_empty_56 : decode cX3_empty 56 = .ok (.putfield 56, 3) := by decide +kernel
theorem dX3_empty_59 : decode cX3_empty 59 = .ok (.aload_n 0, 1) := by decide +kernel
theorem dX3_empty_60 : decode cX3_empty 60 = .ok (.iconst 0, 1) := by decide +kernel
theorem dX3_empty_61 : decode cX3_empty 61 = .ok (.putfield 84, 3) := by decide +kernel
theorem dX3_empty_64 : decode cX3_empty 64 = .ok (.aload_n 0, 1) := by decide +kernel
theorem dX3_empty_65 : decode cX3_empty 65 = .ok (.iconst (-1), 1) := by decide +kernel
theorem dX3_empty_66 : decode cX3_empty 66 = .ok (.putfield 21, 3) := by decide +kernel
theorem dX3_empty_69 : decode cX3_empty 69 = .ok (.return_, 1) := by decide +kernel
theorem dX4_init_0 : decode cX4_init 0 = .ok (.aload_n 0, 1) := by decide +kernel
theorem dX4_init_1 : decode cX4_init 1 = .ok (.invokespecial 3, 3) := by decide +kernel
theorem dX4_init_4 : decode cX4_init 4 = .ok (.aload_n 0, 1) := by decide +kernel
theorem dX4_init_5 : decode cX4_init 5 = .ok (.bipush 64, 2) := by decide +kernel
theorem dX4_init_7 : decode cX4_init 7 = .ok (.newarray .int, 2) := by decide +kernel
theorem dX4_init_9 : decode cX4_init 9 = .ok (.putfield 9, 3) := by decide +kernel
theorem dX4_init_12 : decode cX4_init 12 = .ok (.aload_n 0, 1) := by decide +kernel
theorem dX4_init_13 : decode cX4_init 13 = .ok (.bipush 64, 2) := by decide +kernel
theorem dX4_init_15 : decode cX4_init 15 = .ok (.newarray .int, 2) := by decide +kernel
theorem dX4_init_17 : decode cX4_init 17 = .ok (.putfield 15, 3) := by decide +kernel
theorem dX4_init_20 : decode cX4_init 20 = .ok (.aload_n 0, 1) := by decide +kernel
theorem dX4_init_21 : decode cX4_init 21 = .ok (.bipush 64, 2) := by decide +kernel
theorem dX4_init_23 : decode cX4_init 23 = .ok (.newarray .int, 2) := by decide +kernel
theorem dX4_init_25 : decode cX4_init 25 = .ok (.putfield 18, 3) := by decide +kernel
theorem dX4_init_28 : decode cX4_init 28 = .ok (.aload_n 0, 1) := by decide +kernel
theorem dX4_init_29 : decode cX4_init 29 = .ok (.bipush 64, 2) := by decide +kernel
theorem dX4_init_31 : decode cX4_init 31 = .ok (.newarray .int, 2) := by decide +kernel
theorem dX4_init_33 : decode cX4_init 33 = .ok (.putfield 21, 3) := by decide +kernel
theorem dX4_init_36 : decode cX4_init 36 = .ok (.aload_n 0, 1) := by decide +kernel
theorem dX4_init_37 : decode cX4_init 37 = .ok (.bipush 8, 2) := by decide +kernel
theorem dX4_init_39 : decode cX4_init 39 = .ok (.newarray .int, 2) := by decide +kernel
theorem dX4_init_41 : decode cX4_init 41 = .ok (.putfield 24, 3) := by decide +kernel
theorem dX4_init_44 : decode cX4_init 44 = .ok (.return_, 1) := by decide +kernel
theorem dX4_hasRoom_0 : decode cX4_hasRoom 0 = .ok (.aload_n 0, 1) := by decide +kernel
theorem dX4_hasRoom_1 : decode cX4_hasRoom 1 = .ok (.getfield 27, 3) := by decide +kernel
theorem dX4_hasRoom_4 : decode cX4_hasRoom 4 = .ok (.bipush 8, 2) := by decide +kernel
theorem dX4_hasRoom_6 : decode cX4_hasRoom 6 = .ok (.iadd, 1) := by decide +kernel
theorem dX4_hasRoom_7 : decode cX4_hasRoom 7 = .ok (.sipush 4096, 3) := by decide +kernel
theorem dX4_hasRoom_10 : decode cX4_hasRoom 10 = .ok (.if_icmp .gt 7, 3) := by decide +kernel
theorem dX4_hasRoom_13 : decode cX4_hasRoom 13 = .ok (.iconst 1, 1) := by decide +kernel
theorem dX4_hasRoom_14 : decode cX4_hasRoom 14 = .ok (.goto 4, 3) := by decide +kernel
theorem dX4_hasRoom_17 : decode cX4_hasRoom 17 = .ok (.iconst 0, 1) := by decide +kernel
theorem dX4_hasRoom_18 : decode cX4_hasRoom 18 = .ok (.ireturn, 1) := by decide +kernel
theorem dX4_write_0 : decode cX4_write 0 = .ok (.aload_n 0, 1) := by decide +kernel
theorem dX4_write_1 : decode cX4_write 1 = .ok (.getfield 27, 3) := by decide +kernel
theorem dX4_write_4 : decode cX4_write 4 = .ok (.aload_n 0, 1) := by decide +kernel
theorem dX4_write_5 : decode cX4_write 5 = .ok (.getfield 9, 3) := by decide +kernel
theorem dX4_write_8 : decode cX4_write 8 = .ok (.arraylength, 1) := by decide +kernel
theorem dX4_write_9 : decode cX4_write 9 = .ok (.if_icmp .lt 7, 3) := by decide +kernel
theorem dX4_write_12 : decode cX4_write 12 = .ok (.aload_n 0, 1) := by decide +kernel
theorem dX4_write_13 : decode cX4_write 13 = .ok (.invokevirtual 31, 3) := by decide +kernel
theorem dX4_write_16 : decode cX4_write 16 = .ok (.aload_n 0, 1) := by decide +kernel
theorem dX4_write_17 : decode cX4_write 17 = .ok (.getfield 27, 3) := by decide +kernel
theorem dX4_write_20 : decode cX4_write 20 = .ok (.aload_n 0, 1) := by decide +kernel
theorem dX4_write_21 : decode cX4_write 21 = .ok (.getfield 9, 3) := by decide +kernel
theorem dX4_write_24 : decode cX4_write 24 = .ok (.arraylength, 1) := by decide +kernel
theorem dX4_write_25 : decode cX4_write 25 = .ok (.if_icmp .ge 16, 3) := by decide +kernel
theorem dX4_write_28 : decode cX4_write 28 = .ok (.iload_n 3, 1) := by decide +kernel
theorem dX4_write_29 : decode cX4_write 29 = .ok (.ifCond .lt 12, 3) := by decide +kernel
theorem dX4_write_32 : decode cX4_write 32 = .ok (.iload_n 3, 1) := by decide +kernel
theorem dX4_write_33 : decode cX4_write 33 = .ok (.aload_n 0, 1) := by decide +kernel
theorem dX4_write_34 : decode cX4_write 34 = .ok (.getfield 24, 3) := by decide +kernel
theorem dX4_write_37 : decode cX4_write 37 = .ok (.arraylength, 1) := by decide +kernel
theorem dX4_write_38 : decode cX4_write 38 = .ok (.if_icmp .lt 4, 3) := by decide +kernel
theorem dX4_write_41 : decode cX4_write 41 = .ok (.return_, 1) := by decide +kernel
theorem dX4_write_42 : decode cX4_write 42 = .ok (.aload_n 0, 1) := by decide +kernel
theorem dX4_write_43 : decode cX4_write 43 = .ok (.getfield 9, 3) := by decide +kernel
theorem dX4_write_46 : decode cX4_write 46 = .ok (.aload_n 0, 1) := by decide +kernel
theorem dX4_write_47 : decode cX4_write 47 = .ok (.getfield 27, 3) := by decide +kernel
theorem dX4_write_50 : decode cX4_write 50 = .ok (.iload_n 1, 1) := by decide +kernel
theorem dX4_write_51 : decode cX4_write 51 = .ok (.iastore, 1) := by decide +kernel
theorem dX4_write_52 : decode cX4_write 52 = .ok (.aload_n 0, 1) := by decide +kernel
theorem dX4_write_53 : decode cX4_write 53 = .ok (.getfield 15, 3) := by decide +kernel
theorem dX4_write_56 : decode cX4_write 56 = .ok (.aload_n 0, 1) := by decide +kernel
theorem dX4_write_57 : decode cX4_write 57 = .ok (.getfield 27, 3) := by decide +kernel
theorem dX4_write_60 : decode cX4_write 60 = .ok (.iload_n 2, 1) := by decide +kernel
theorem dX4_write_61 : decode cX4_write 61 = .ok (.iastore, 1) := by decide +kernel
theorem dX4_write_62 : decode cX4_write 62 = .ok (.aload_n 0, 1) := by decide +kernel
theorem dX4_write_63 : decode cX4_write 63 = .ok (.getfield 18, 3) := by decide +kernel
theorem dX4_write_66 : decode cX4_write 66 = .ok (.aload_n 0, 1) := by decide +kernel
theorem dX4_write_67 : decode cX4_write 67 = .ok (.getfield 27, 3) := by decide +kernel
theorem dX4_write_70 : decode cX4_write 70 = .ok (.iload_n 3, 1) := by decide +kernel
theorem dX4_write_71 : decode cX4_write 71 = .ok (.iastore, 1) := by decide +kernel
theorem dX4_write_72 : decode cX4_write 72 = .ok (.aload_n 0, 1) := by decide +kernel
theorem dX4_write_73 : decode cX4_write 73 = .ok (.getfield 21, 3) := by decide +kernel
theorem dX4_write_76 : decode cX4_write 76 = .ok (.aload_n 0, 1) := by decide +kernel
theorem dX4_write_77 : decode cX4_write 77 = .ok (.getfield 27, 3) := by decide +kernel
theorem dX4_write_80 : decode cX4_write 80 = .ok (.iload 4, 2) := by decide +kernel
theorem dX4_write_82 : decode cX4_write 82 = .ok (.iastore, 1) := by decide +kernel
theorem dX4_write_83 : decode cX4_write 83 = .ok (.aload_n 0, 1) := by decide +kernel
theorem dX4_write_84 : decode cX4_write 84 = .ok (.getfield 24, 3) := by decide +kernel
theorem dX4_write_87 : decode cX4_write 87 = .ok (.iload_n 3, 1) := by decide +kernel
theorem dX4_write_88 : decode cX4_write 88 = .ok (.dup2, 1) := by decide +kernel
theorem dX4_write_89 : decode cX4_write 89 = .ok (.iaload, 1) := by decide +kernel
theorem dX4_write_90 : decode cX4_write 90 = .ok (.iload 4, 2) := by decide +kernel
theorem dX4_write_92 : decode cX4_write 92 = .ok (.iadd, 1) := by decide +kernel
theorem dX4_write_93 : decode cX4_write 93 = .ok (.iastore, 1) := by decide +kernel
theorem dX4_write_94 : decode cX4_write 94 = .ok (.aload_n 0, 1) := by decide +kernel
theorem dX4_write_95 : decode cX4_write 95 = .ok (.dup, 1) := by decide +kernel
theorem dX4_write_96 : decode cX4_write 96 = .ok (.getfield 27, 3) := by decide +kernel
theorem dX4_write_99 : decode cX4_write 99 = .ok (.iconst 1, 1) := by decide +kernel
theorem dX4_write_100 : decode cX4_write 100 = .ok (.iadd, 1) := by decide +kernel
theorem dX4_write_101 : decode cX4_write 101 = .ok (.putfield 27, 3) := by decide +kernel
theorem dX4_write_104 : decode cX4_write 104 = .ok (.return_, 1) := by decide +kernel
theorem dX4_grow_0 : decode cX4_grow 0 = .ok (.sipush 4096, 3) := by decide +kernel
theorem dX4_grow_3 : decode cX4_grow 3 = .ok (.iconst 2, 1) := by decide +kernel
theorem dX4_grow_4 : decode cX4_grow 4 = .ok (.aload_n 0, 1) := by decide +kernel
theorem dX4_grow_5 : decode cX4_grow 5 = .ok (.getfield 9, 3) := by decide +kernel
theorem dX4_grow_8 : decode cX4_grow 8 = .ok (.arraylength, 1) := by decide +kernel
theorem dX4_grow_9 : decode cX4_grow 9 = .ok (.imul, 1) := by decide +kernel
theorem dX4_grow_10 : decode cX4_grow 10 = .ok (.invokestatic 34, 3) := by decide +kernel
theorem dX4_grow_13 : decode cX4_grow 13 = .ok (.istore_n 1, 1) := by decide +kernel
theorem dX4_grow_14 : decode cX4_grow 14 = .ok (.iload_n 1, 1) := by decide +kernel
theorem dX4_grow_15 : decode cX4_grow 15 = .ok (.aload_n 0, 1) := by decide +kernel
theorem dX4_grow_16 : decode cX4_grow 16 = .ok (.getfield 9, 3) := by decide +kernel
theorem dX4_grow_19 : decode cX4_grow 19 = .ok (.arraylength, 1) := by decide +kernel
theorem dX4_grow_20 : decode cX4_grow 20 = .ok (.if_icmp .le 51, 3) := by decide +kernel
theorem dX4_grow_23 : decode cX4_grow 23 = .ok (.aload_n 0, 1) := by decide +kernel
theorem dX4_grow_24 : decode cX4_grow 24 = .ok (.aload_n 0, 1) := by decide +kernel
theorem dX4_grow_25 : decode cX4_grow 25 = .ok (.getfield 9, 3) := by decide +kernel
theorem dX4_grow_28 : decode cX4_grow 28 = .ok (.iload_n 1, 1) := by decide +kernel
theorem dX4_grow_29 : decode cX4_grow 29 = .ok (.invokestatic 40, 3) := by decide +kernel
theorem dX4_grow_32 : decode cX4_grow 32 = .ok (.putfield 9, 3) := by decide +kernel
theorem dX4_grow_35 : decode cX4_grow 35 = .ok (.aload_n 0, 1) := by decide +kernel
theorem dX4_grow_36 : decode cX4_grow 36 = .ok (.aload_n 0, 1) := by decide +kernel
theorem dX4_grow_37 : decode cX4_grow 37 = .ok (.getfield 15, 3) := by decide +kernel
theorem dX4_grow_40 : decode cX4_grow 40 = .ok (.iload_n 1, 1) := by decide +kernel
theorem dX4_grow_41 : decode cX4_grow 41 = .ok (.invokestatic 40, 3) := by decide +kernel
theorem dX4_grow_44 : decode cX4_grow 44 = .ok (.putfield 15, 3) := by decide +kernel
theorem dX4_grow_47 : decode cX4_grow 47 = .ok (.aload_n 0, 1) := by decide +kernel
theorem dX4_grow_48 : decode cX4_grow 48 = .ok (.aload_n 0, 1) := by decide +kernel
theorem dX4_grow_49 : decode cX4_grow 49 = .ok (.getfield 18, 3) := by decide +kernel
theorem dX4_grow_52 : decode cX4_grow 52 = .ok (.iload_n 1, 1) := by decide +kernel
theorem dX4_grow_53 : decode cX4_grow 53 = .ok (.invokestatic 40, 3) := by decide +kernel
theorem dX4_grow_56 : decode cX4_grow 56 = .ok (.putfield 18, 3) := by decide +kernel
theorem dX4_grow_59 : decode cX4_grow 59 = .ok (.aload_n 0, 1) := by decide +kernel
theorem dX4_grow_60 : decode cX4_grow 60 = .ok (.aload_n 0, 1) := by decide +kernel
theorem dX4_grow_61 : decode cX4_grow 61 = .ok (.getfield 21, 3) := by decide +kernel
theorem dX4_grow_64 : decode cX4_grow 64 = .ok (.iload_n 1, 1) := by decide +kernel
theorem dX4_grow_65 : decode cX4_grow 65 = .ok (.invokestatic 40, 3) := by decide +kernel
theorem dX4_grow_68 : decode cX4_grow 68 = .ok (.putfield 21, 3) := by decide +kernel
theorem dX4_grow_71 : decode cX4_grow 71 = .ok (.return_, 1) := by decide +kernel
theorem dX5_init_0 : decode cX5_init 0 = .ok (.aload_n 0, 1) := by decide +kernel
theorem dX5_init_1 : decode cX5_init 1 = .ok (.invokespecial 3, 3) := by decide +kernel
theorem dX5_init_4 : decode cX5_init 4 = .ok (.aload_n 0, 1) := by decide +kernel
theorem dX5_init_5 : decode cX5_init 5 = .ok (.bipush 8, 2) := by decide +kernel
theorem dX5_init_7 : decode cX5_init 7 = .ok (.newarray .int, 2) := by decide +kernel
theorem dX5_init_9 : decode cX5_init 9 = .ok (.putfield 9, 3) := by decide +kernel
theorem dX5_init_12 : decode cX5_init 12 = .ok (.aload_n 0, 1) := by decide +kernel
theorem dX5_init_13 : decode cX5_init 13 = .ok (.bipush 8, 2) := by decide +kernel
theorem dX5_init_15 : decode cX5_init 15 = .ok (.newarray .int, 2) := by decide +kernel
theorem dX5_init_17 : decode cX5_init 17 = .ok (.putfield 15, 3) := by decide +kernel
theorem dX5_init_20 : decode cX5_init 20 = .ok (.aload_n 0, 1) := by decide +kernel
theorem dX5_init_21 : decode cX5_init 21 = .ok (.bipush 8, 2) := by decide +kernel
theorem dX5_init_23 : decode cX5_init 23 = .ok (.newarray .int, 2) := by decide +kernel
theorem dX5_init_25 : decode cX5_init 25 = .ok (.putfield 18, 3) := by decide +kernel
theorem dX5_init_28 : decode cX5_init 28 = .ok (.aload_n 0, 1) := by decide +kernel
theorem dX5_init_29 : decode cX5_init 29 = .ok (.bipush 100, 2) := by decide +kernel
theorem dX5_init_31 : decode cX5_init 31 = .ok (.newarray .int, 2) := by decide +kernel
theorem dX5_init_33 : decode cX5_init 33 = .ok (.putfield 21, 3) := by decide +kernel
theorem dX5_init_36 : decode cX5_init 36 = .ok (.aload_n 0, 1) := by decide +kernel
theorem dX5_init_37 : decode cX5_init 37 = .ok (.bipush 100, 2) := by decide +kernel
theorem dX5_init_39 : decode cX5_init 39 = .ok (.newarray .int, 2) := by decide +kernel
theorem dX5_init_41 : decode cX5_init 41 = .ok (.putfield 24, 3) := by decide +kernel
theorem dX5_init_44 : decode cX5_init 44 = .ok (.aload_n 0, 1) := by decide +kernel
theorem dX5_init_45 : decode cX5_init 45 = .ok (.bipush 100, 2) := by decide +kernel
theorem dX5_init_47 : decode cX5_init 47 = .ok (.newarray .boolean, 2) := by decide +kernel
theorem dX5_init_49 : decode cX5_init 49 = .ok (.putfield 27, 3) := by decide +kernel
theorem dX5_init_52 : decode cX5_init 52 = .ok (.aload_n 0, 1) := by decide +kernel
theorem dX5_init_53 : decode cX5_init 53 = .ok (.bipush 100, 2) := by decide +kernel
theorem dX5_init_55 : decode cX5_init 55 = .ok (.newarray .int, 2) := by decide +kernel
theorem dX5_init_57 : decode cX5_init 57 = .ok (.putfield 31, 3) := by decide +kernel
theorem dX5_init_60 : decode cX5_init 60 = .ok (.aload_n 0, 1) := by decide +kernel
theorem dX5_init_61 : decode cX5_init 61 = .ok (.bipush 8, 2) := by decide +kernel
theorem dX5_init_63 : decode cX5_init 63 = .ok (.newarray .int, 2) := by decide +kernel
theorem dX5_init_65 : decode cX5_init 65 = .ok (.putfield 34, 3) := by decide +kernel
theorem dX5_init_68 : decode cX5_init 68 = .ok (.return_, 1) := by decide +kernel
theorem dX5_take_0 : decode cX5_take 0 = .ok (.aload_n 0, 1) := by decide +kernel
theorem dX5_take_1 : decode cX5_take 1 = .ok (.getfield 37, 3) := by decide +kernel
theorem dX5_take_4 : decode cX5_take 4 = .ok (.bipush 8, 2) := by decide +kernel
theorem dX5_take_6 : decode cX5_take 6 = .ok (.if_icmp .lt 5, 3) := by decide +kernel
theorem dX5_take_9 : decode cX5_take 9 = .ok (.iconst (-1), 1) := by decide +kernel
theorem dX5_take_10 : decode cX5_take 10 = .ok (.ireturn, 1) := by decide +kernel
theorem dX5_take_11 : decode cX5_take 11 = .ok (.aload_n 0, 1) := by decide +kernel
theorem dX5_take_12 : decode cX5_take 12 = .ok (.getfield 9, 3) := by decide +kernel
theorem dX5_take_15 : decode cX5_take 15 = .ok (.aload_n 0, 1) := by decide +kernel
theorem dX5_take_16 : decode cX5_take 16 = .ok (.getfield 37, 3) := by decide +kernel
theorem dX5_take_19 : decode cX5_take 19 = .ok (.iload_n 1, 1) := by decide +kernel
theorem dX5_take_20 : decode cX5_take 20 = .ok (.iastore, 1) := by decide +kernel
theorem dX5_take_21 : decode cX5_take 21 = .ok (.aload_n 0, 1) := by decide +kernel
theorem dX5_take_22 : decode cX5_take 22 = .ok (.getfield 15, 3) := by decide +kernel
theorem dX5_take_25 : decode cX5_take 25 = .ok (.aload_n 0, 1) := by decide +kernel
theorem dX5_take_26 : decode cX5_take 26 = .ok (.getfield 37, 3) := by decide +kernel
theorem dX5_take_29 : decode cX5_take 29 = .ok (.iload_n 2, 1) := by decide +kernel
theorem dX5_take_30 : decode cX5_take 30 = .ok (.iastore, 1) := by decide +kernel
theorem dX5_take_31 : decode cX5_take 31 = .ok (.aload_n 0, 1) := by decide +kernel
theorem dX5_take_32 : decode cX5_take 32 = .ok (.dup, 1) := by decide +kernel
theorem dX5_take_33 : decode cX5_take 33 = .ok (.getfield 37, 3) := by decide +kernel
theorem dX5_take_36 : decode cX5_take 36 = .ok (.dup_x1, 1) := by decide +kernel
theorem dX5_take_37 : decode cX5_take 37 = .ok (.iconst 1, 1) := by decide +kernel
theorem dX5_take_38 : decode cX5_take 38 = .ok (.iadd, 1) := by decide +kernel
theorem dX5_take_39 : decode cX5_take 39 = .ok (.putfield 37, 3) := by decide +kernel
theorem dX5_take_42 : decode cX5_take 42 = .ok (.ireturn, 1) := by decide +kernel
theorem dX5_weigh_0 : decode cX5_weigh 0 = .ok (.aload_n 0, 1) := by decide +kernel
theorem dX5_weigh_1 : decode cX5_weigh 1 = .ok (.iload_n 2, 1) := by decide +kernel
theorem dX5_weigh_2 : decode cX5_weigh 2 = .ok (.aload_n 1, 1) := by decide +kernel
theorem dX5_weigh_3 : decode cX5_weigh 3 = .ok (.arraylength, 1) := by decide +kernel
theorem dX5_weigh_4 : decode cX5_weigh 4 = .ok (.invokestatic 41, 3) := by decide +kernel
theorem dX5_weigh_7 : decode cX5_weigh 7 = .ok (.bipush 100, 2) := by decide +kernel
theorem dX5_weigh_9 : decode cX5_weigh 9 = .ok (.invokestatic 41, 3) := by decide +kernel
theorem dX5_weigh_12 : decode cX5_weigh 12 = .ok (.putfield 47, 3) := by decide +kernel
theorem dX5_weigh_15 : decode cX5_weigh 15 = .ok (.iconst 0, 1) := by decide +kernel
theorem dX5_weigh_16 : decode cX5_weigh 16 = .ok (.istore_n 3, 1) := by decide +kernel
theorem dX5_weigh_17 : decode cX5_weigh 17 = .ok (.iload_n 3, 1) := by decide +kernel
theorem dX5_weigh_18 : decode cX5_weigh 18 = .ok (.aload_n 0, 1) := by decide +kernel
theorem dX5_weigh_19 : decode cX5_weigh 19 = .ok (.getfield 47, 3) := by decide +kernel
theorem dX5_weigh_22 : decode cX5_weigh 22 = .ok (.if_icmp .ge 43, 3) := by decide +kernel
theorem dX5_weigh_25 : decode cX5_weigh 25 = .ok (.aload_n 1, 1) := by decide +kernel
theorem dX5_weigh_26 : decode cX5_weigh 26 = .ok (.iload_n 3, 1) := by decide +kernel
theorem dX5_weigh_27 : decode cX5_weigh 27 = .ok (.aaload, 1) := by decide +kernel
theorem dX5_weigh_28 : decode cX5_weigh 28 = .ok (.astore 4, 2) := by decide +kernel
theorem dX5_weigh_30 : decode cX5_weigh 30 = .ok (.aload_n 0, 1) := by decide +kernel
theorem dX5_weigh_31 : decode cX5_weigh 31 = .ok (.getfield 21, 3) := by decide +kernel
theorem dX5_weigh_34 : decode cX5_weigh 34 = .ok (.iload_n 3, 1) := by decide +kernel
theorem dX5_weigh_35 : decode cX5_weigh 35 = .ok (.aload 4, 2) := by decide +kernel
theorem dX5_weigh_37 : decode cX5_weigh 37 = .ok (.ifnonnull 7, 3) := by decide +kernel
theorem dX5_weigh_40 : decode cX5_weigh 40 = .ok (.iconst 0, 1) := by decide +kernel
theorem dX5_weigh_41 : decode cX5_weigh 41 = .ok (.goto 17, 3) := by decide +kernel
theorem dX5_weigh_44 : decode cX5_weigh 44 = .ok (.aload_n 0, 1) := by decide +kernel
theorem dX5_weigh_45 : decode cX5_weigh 45 = .ok (.aload 4, 2) := by decide +kernel
theorem dX5_weigh_47 : decode cX5_weigh 47 = .ok (.invokevirtual 50, 3) := by decide +kernel
theorem dX5_weigh_50 : decode cX5_weigh 50 = .ok (.aload 4, 2) := by decide +kernel
theorem dX5_weigh_52 : decode cX5_weigh 52 = .ok (.getfield 56, 3) := by decide +kernel
theorem dX5_weigh_55 : decode cX5_weigh 55 = .ok (.invokevirtual 59, 3) := by decide +kernel
theorem dX5_weigh_58 : decode cX5_weigh 58 = .ok (.iastore, 1) := by decide +kernel
theorem dX5_weigh_59 : decode cX5_weigh 59 = .ok (.iinc 3 1, 3) := by decide +kernel
theorem dX5_weigh_62 : decode cX5_weigh 62 = .ok (.goto (-45), 3) := by decide +kernel
theorem dX5_weigh_65 : decode cX5_weigh 65 = .ok (.return_, 1) := by decide +kernel
theorem dX5_ordersThatFit_0 : decode cX5_ordersThatFit 0 = .ok (.iconst 0, 1) := by decide +kernel
theorem dX5_ordersThatFit_1 : decode cX5_ordersThatFit 1 = .ok (.istore_n 3, 1) := by decide +kernel
theorem dX5_ordersThatFit_2 : decode cX5_ordersThatFit 2 = .ok (.iconst 0, 1) := by decide +kernel
theorem dX5_ordersThatFit_3 : decode cX5_ordersThatFit 3 = .ok (.istore 4, 2) := by decide +kernel
theorem dX5_ordersThatFit_5 : decode cX5_ordersThatFit 5 = .ok (.iload 4, 2) := by decide +kernel
theorem dX5_ordersThatFit_7 : decode cX5_ordersThatFit 7 = .ok (.aload_n 0, 1) := by decide +kernel
theorem dX5_ordersThatFit_8 : decode cX5_ordersThatFit 8 = .ok (.getfield 37, 3) := by decide +kernel
theorem dX5_ordersThatFit_11 : decode cX5_ordersThatFit 11 = .ok (.if_icmp .ge 45, 3) := by decide +kernel
theorem dX5_ordersThatFit_14 : decode cX5_ordersThatFit 14 = .ok (.iload 4, 2) := by decide +kernel
theorem dX5_ordersThatFit_16 : decode cX5_ordersThatFit 16 = .ok (.bipush 8, 2) := by decide +kernel
theorem dX5_ordersThatFit_18 : decode cX5_ordersThatFit 18 = .ok (.if_icmp .ge 38, 3) := by decide +kernel
theorem dX5_ordersThatFit_21 : decode cX5_ordersThatFit 21 = .ok (.iload_n 1, 1) := by decide +kernel
theorem dX5_ordersThatFit_22 : decode cX5_ordersThatFit 22 = .ok (.aload_n 0, 1) := by decide +kernel
theorem dX5_ordersThatFit_23 : decode cX5_ordersThatFit 23 = .ok (.getfield 9, 3) := by decide +kernel
theorem dX5_ordersThatFit_26 : decode cX5_ordersThatFit 26 = .ok (.iload 4, 2) := by decide +kernel
theorem dX5_ordersThatFit_28 : decode cX5_ordersThatFit 28 = .ok (.iaload, 1) := by decide +kernel
theorem dX5_ordersThatFit_29 : decode cX5_ordersThatFit 29 = .ok (.if_icmp .gt 21, 3) := by decide +kernel
theorem dX5_ordersThatFit_32 : decode cX5_ordersThatFit 32 = .ok (.iload_n 2, 1) := by decide +kernel
theorem dX5_ordersThatFit_33 : decode cX5_ordersThatFit 33 = .ok (.aload_n 0, 1) := by decide +kernel
theorem dX5_ordersThatFit_34 : decode cX5_ordersThatFit 34 = .ok (.getfield 15, 3) := by decide +kernel
theorem dX5_ordersThatFit_37 : decode cX5_ordersThatFit 37 = .ok (.iload 4, 2) := by decide +kernel
theorem dX5_ordersThatFit_39 : decode cX5_ordersThatFit 39 = .ok (.iaload, 1) := by decide +kernel
theorem dX5_ordersThatFit_40 : decode cX5_ordersThatFit 40 = .ok (.if_icmp .lt 10, 3) := by decide +kernel
theorem dX5_ordersThatFit_43 : decode cX5_ordersThatFit 43 = .ok (.iload_n 3, 1) := by decide +kernel
theorem dX5_ordersThatFit_44 : decode cX5_ordersThatFit 44 = .ok (.iconst 1, 1) := by decide +kernel
theorem dX5_ordersThatFit_45 : decode cX5_ordersThatFit 45 = .ok (.iload 4, 2) := by decide +kernel
theorem dX5_ordersThatFit_47 : decode cX5_ordersThatFit 47 = .ok (.ishl, 1) := by decide +kernel
theorem dX5_ordersThatFit_48 : decode cX5_ordersThatFit 48 = .ok (.ior, 1) := by decide +kernel
theorem dX5_ordersThatFit_49 : decode cX5_ordersThatFit 49 = .ok (.istore_n 3, 1) := by decide +kernel
theorem dX5_ordersThatFit_50 : decode cX5_ordersThatFit 50 = .ok (.iinc 4 1, 3) := by decide +kernel
theorem dX5_ordersThatFit_53 : decode cX5_ordersThatFit 53 = .ok (.goto (-48), 3) := by decide +kernel
theorem dX5_ordersThatFit_56 : decode cX5_ordersThatFit 56 = .ok (.iload_n 3, 1) := by decide +kernel
theorem dX5_ordersThatFit_57 : decode cX5_ordersThatFit 57 = .ok (.ireturn, 1) := by decide +kernel
theorem dX5_match_0 : decode cX5_match 0 = .ok (.aload_n 0, 1) := by decide +kernel
theorem dX5_match_1 : decode cX5_match 1 = .ok (.aload_n 1, 1) := by decide +kernel
theorem dX5_match_2 : decode cX5_match 2 = .ok (.iload_n 2, 1) := by decide +kernel
theorem dX5_match_3 : decode cX5_match 3 = .ok (.invokevirtual 62, 3) := by decide +kernel
theorem dX5_match_6 : decode cX5_match 6 = .ok (.aload_n 0, 1) := by decide +kernel
theorem dX5_match_7 : decode cX5_match 7 = .ok (.getfield 18, 3) := by decide +kernel
theorem dX5_match_10 : decode cX5_match 10 = .ok (.iconst (-1), 1) := by decide +kernel
theorem dX5_match_11 : decode cX5_match 11 = .ok (.invokestatic 66, 3) := by decide +kernel
theorem dX5_match_14 : decode cX5_match 14 = .ok (.aload_n 0, 1) := by decide +kernel
theorem dX5_match_15 : decode cX5_match 15 = .ok (.getfield 24, 3) := by decide +kernel
theorem dX5_match_18 : decode cX5_match 18 = .ok (.iconst (-1), 1) := by decide +kernel
theorem dX5_match_19 : decode cX5_match 19 = .ok (.invokestatic 66, 3) := by decide +kernel
theorem dX5_match_22 : decode cX5_match 22 = .ok (.iconst 0, 1) := by decide +kernel
theorem dX5_match_23 : decode cX5_match 23 = .ok (.istore_n 3, 1) := by decide +kernel
theorem dX5_match_24 : decode cX5_match 24 = .ok (.iload_n 3, 1) := by decide +kernel
theorem dX5_match_25 : decode cX5_match 25 = .ok (.aload_n 0, 1) := by decide +kernel
theorem dX5_match_26 : decode cX5_match 26 = .ok (.getfield 47, 3) := by decide +kernel
theorem dX5_match_29 : decode cX5_match 29 = .ok (.if_icmp .ge 16, 3) := by decide +kernel
theorem dX5_match_32 : decode cX5_match 32 = .ok (.aload_n 0, 1) := by decide +kernel
theorem dX5_match_33 : decode cX5_match 33 = .ok (.getfield 27, 3) := by decide +kernel
theorem dX5_match_36 : decode cX5_match 36 = .ok (.iload_n 3, 1) := by decide +kernel
theorem dX5_match_37 : decode cX5_match 37 = .ok (.iconst 0, 1) := by decide +kernel
theorem dX5_match_38 : decode cX5_match 38 = .ok (.bastore, 1) := by decide +kernel
theorem dX5_match_39 : decode cX5_match 39 = .ok (.iinc 3 1, 3) := by decide +kernel
theorem dX5_match_42 : decode cX5_match 42 = .ok (.goto (-18), 3) := by decide +kernel
theorem dX5_match_45 : decode cX5_match 45 = .ok (.iconst 0, 1) := by decide +kernel
theorem dX5_match_46 : decode cX5_match 46 = .ok (.istore_n 3, 1) := by decide +kernel
theorem dX5_match_47 : decode cX5_match 47 = .ok (.iload_n 3, 1) := by decide +kernel
theorem dX5_match_48 : decode cX5_match 48 = .ok (.aload_n 0, 1) := by decide +kernel
theorem dX5_match_49 : decode cX5_match 49 = .ok (.getfield 37, 3) := by decide +kernel
theorem dX5_match_52 : decode cX5_match 52 = .ok (.if_icmp .ge 21, 3) := by decide +kernel
theorem dX5_match_55 : decode cX5_match 55 = .ok (.iload_n 3, 1) := by decide +kernel
theorem dX5_match_56 : decode cX5_match 56 = .ok (.bipush 8, 2) := by decide +kernel
theorem dX5_match_58 : decode cX5_match 58 = .ok (.if_icmp .ge 15, 3) := by decide +kernel
theorem dX5_match_61 : decode cX5_match 61 = .ok (.aload_n 0, 1) := by decide +kernel
theorem dX5_match_62 : decode cX5_match 62 = .ok (.iload_n 3, 1) := by decide +kernel
theorem dX5_match_63 : decode cX5_match 63 = .ok (.invokevirtual 72, 3) := by decide +kernel
theorem dX5_match_66 : decode cX5_match 66 = .ok (.pop, 1) := by decide +kernel
theorem dX5_match_67 : decode cX5_match 67 = .ok (.iinc 3 1, 3) := by decide +kernel
theorem dX5_match_70 : decode cX5_match 70 = .ok (.goto (-23), 3) := by decide +kernel
theorem dX5_match_73 : decode cX5_match 73 = .ok (.iconst 0, 1) := by decide +kernel
theorem dX5_match_74 : decode cX5_match 74 = .ok (.istore_n 3, 1) := by decide +kernel
theorem dX5_match_75 : decode cX5_match 75 = .ok (.iload_n 3, 1) := by decide +kernel
theorem dX5_match_76 : decode cX5_match 76 = .ok (.aload_n 0, 1) := by decide +kernel
theorem dX5_match_77 : decode cX5_match 77 = .ok (.getfield 37, 3) := by decide +kernel
theorem dX5_match_80 : decode cX5_match 80 = .ok (.if_icmp .ge 30, 3) := by decide +kernel
theorem dX5_match_83 : decode cX5_match 83 = .ok (.iload_n 3, 1) := by decide +kernel
theorem dX5_match_84 : decode cX5_match 84 = .ok (.bipush 8, 2) := by decide +kernel
theorem dX5_match_86 : decode cX5_match 86 = .ok (.if_icmp .ge 24, 3) := by decide +kernel
theorem dX5_match_89 : decode cX5_match 89 = .ok (.aload_n 0, 1) := by decide +kernel
theorem dX5_match_90 : decode cX5_match 90 = .ok (.getfield 18, 3) := by decide +kernel
theorem dX5_match_93 : decode cX5_match 93 = .ok (.iload_n 3, 1) := by decide +kernel
theorem dX5_match_94 : decode cX5_match 94 = .ok (.iaload, 1) := by decide +kernel
theorem dX5_match_95 : decode cX5_match 95 = .ok (.iconst (-1), 1) := by decide +kernel
theorem dX5_match_96 : decode cX5_match 96 = .ok (.if_icmp .eq 8, 3) := by decide +kernel
theorem dX5_match_99 : decode cX5_match 99 = .ok (.aload_n 0, 1) := by decide +kernel
theorem dX5_match_100 : decode cX5_match 100 = .ok (.iload_n 3, 1) := by decide +kernel
theorem dX5_match_101 : decode cX5_match 101 = .ok (.invokevirtual 76, 3) := by decide +kernel
theorem dX5_match_104 : decode cX5_match 104 = .ok (.iinc 3 1, 3) := by decide +kernel
theorem dX5_match_107 : decode cX5_match 107 = .ok (.goto (-32), 3) := by decide +kernel
theorem dX5_match_110 : decode cX5_match 110 = .ok (.return_, 1) := by decide +kernel
theorem dX5_findBar_0 : decode cX5_findBar 0 = .ok (.aload_n 0, 1) := by decide +kernel
theorem dX5_findBar_1 : decode cX5_findBar 1 = .ok (.getfield 31, 3) := by decide +kernel
theorem dX5_findBar_4 : decode cX5_findBar 4 = .ok (.iconst (-1), 1) := by decide +kernel
theorem dX5_findBar_5 : decode cX5_findBar 5 = .ok (.invokestatic 66, 3) := by decide +kernel
theorem dX5_findBar_8 : decode cX5_findBar 8 = .ok (.aload_n 0, 1) := by decide +kernel
theorem dX5_findBar_9 : decode cX5_findBar 9 = .ok (.getfield 34, 3) := by decide +kernel
theorem dX5_findBar_12 : decode cX5_findBar 12 = .ok (.iconst 0, 1) := by decide +kernel
theorem dX5_findBar_13 : decode cX5_findBar 13 = .ok (.iload_n 1, 1) := by decide +kernel
theorem dX5_findBar_14 : decode cX5_findBar 14 = .ok (.iastore, 1) := by decide +kernel
theorem dX5_findBar_15 : decode cX5_findBar 15 = .ok (.iconst 1, 1) := by decide +kernel
theorem dX5_findBar_16 : decode cX5_findBar 16 = .ok (.istore_n 2, 1) := by decide +kernel
theorem dX5_findBar_17 : decode cX5_findBar 17 = .ok (.iconst 0, 1) := by decide +kernel
theorem dX5_findBar_18 : decode cX5_findBar 18 = .ok (.istore_n 3, 1) := by decide +kernel
theorem dX5_findBar_19 : decode cX5_findBar 19 = .ok (.iload_n 3, 1) := by decide +kernel
theorem dX5_findBar_20 : decode cX5_findBar 20 = .ok (.iload_n 2, 1) := by decide +kernel
theorem dX5_findBar_21 : decode cX5_findBar 21 = .ok (.if_icmp .ge 130, 3) := by decide +kernel
theorem dX5_findBar_24 : decode cX5_findBar 24 = .ok (.iload_n 3, 1) := by decide +kernel
theorem dX5_findBar_25 : decode cX5_findBar 25 = .ok (.bipush 8, 2) := by decide +kernel
theorem dX5_findBar_27 : decode cX5_findBar 27 = .ok (.if_icmp .ge 124, 3) := by decide +kernel
theorem dX5_findBar_30 : decode cX5_findBar 30 = .ok (.aload_n 0, 1) := by decide +kernel
theorem dX5_findBar_31 : decode cX5_findBar 31 = .ok (.getfield 34, 3) := by decide +kernel
theorem dX5_findBar_34 : decode cX5_findBar 34 = .ok (.iload_n 3, 1) := by decide +kernel
theorem dX5_findBar_35 : decode cX5_findBar 35 = .ok (.iaload, 1) := by decide +kernel
theorem dX5_findBar_36 : decode cX5_findBar 36 = .ok (.istore 4, 2) := by decide +kernel
theorem dX5_findBar_38 : decode cX5_findBar 38 = .ok (.iconst 0, 1) := by decide +kernel
theorem dX5_findBar_39 : decode cX5_findBar 39 = .ok (.istore 5, 2) := by decide +kernel
theorem dX5_findBar_41 : decode cX5_findBar 41 = .ok (.iload 5, 2) := by decide +kernel
theorem dX5_findBar_43 : decode cX5_findBar 43 = .ok (.aload_n 0, 1) := by decide +kernel
theorem dX5_findBar_44 : decode cX5_findBar 44 = .ok (.getfield 47, 3) := by decide +kernel
theorem dX5_findBar_47 : decode cX5_findBar 47 = .ok (.if_icmp .ge 98, 3) := by decide +kernel
theorem dX5_findBar_50 : decode cX5_findBar 50 = .ok (.aload_n 0, 1) := by decide +kernel
theorem dX5_findBar_51 : decode cX5_findBar 51 = .ok (.getfield 21, 3) := by decide +kernel
theorem dX5_findBar_54 : decode cX5_findBar 54 = .ok (.iload 5, 2) := by decide +kernel
theorem dX5_findBar_56 : decode cX5_findBar 56 = .ok (.iaload, 1) := by decide +kernel
theorem dX5_findBar_57 : decode cX5_findBar 57 = .ok (.iload 4, 2) := by decide +kernel
theorem dX5_findBar_59 : decode cX5_findBar 59 = .ok (.ishr, 1) := by decide +kernel
theorem dX5_findBar_60 : decode cX5_findBar 60 = .ok (.iconst 1, 1) := by decide +kernel
theorem dX5_findBar_61 : decode cX5_findBar 61 = .ok (.iand, 1) := by decide +kernel
theorem dX5_findBar_62 : decode cX5_findBar 62 = .ok (.ifCond .eq 77, 3) := by decide +kernel
theorem dX5_findBar_65 : decode cX5_findBar 65 = .ok (.aload_n 0, 1) := by decide +kernel
theorem dX5_findBar_66 : decode cX5_findBar 66 = .ok (.getfield 27, 3) := by decide +kernel
theorem dX5_findBar_69 : decode cX5_findBar 69 = .ok (.iload 5, 2) := by decide +kernel
theorem dX5_findBar_71 : decode cX5_findBar 71 = .ok (.baload, 1) := by decide +kernel
theorem dX5_findBar_72 : decode cX5_findBar 72 = .ok (.ifCond .ne 67, 3) := by decide +kernel
theorem dX5_findBar_75 : decode cX5_findBar 75 = .ok (.aload_n 0, 1) := by decide +kernel
theorem dX5_findBar_76 : decode cX5_findBar 76 = .ok (.getfield 31, 3) := by decide +kernel
theorem dX5_findBar_79 : decode cX5_findBar 79 = .ok (.iload 5, 2) := by decide +kernel
theorem dX5_findBar_81 : decode cX5_findBar 81 = .ok (.iaload, 1) := by decide +kernel
theorem dX5_findBar_82 : decode cX5_findBar 82 = .ok (.iconst (-1), 1) := by decide +kernel
theorem dX5_findBar_83 : decode cX5_findBar 83 = .ok (.if_icmp .eq 6, 3) := by decide +kernel
theorem dX5_findBar_86 : decode cX5_findBar 86 = .ok (.goto 53, 3) := by decide +kernel
theorem dX5_findBar_89 : decode cX5_findBar 89 = .ok (.aload_n 0, 1) := by decide +kernel
theorem dX5_findBar_90 : decode cX5_findBar 90 = .ok (.getfield 31, 3) := by decide +kernel
theorem dX5_findBar_93 : decode cX5_findBar 93 = .ok (.iload 5, 2) := by decide +kernel
theorem dX5_findBar_95 : decode cX5_findBar 95 = .ok (.iload 4, 2) := by decide +kernel
theorem dX5_findBar_97 : decode cX5_findBar 97 = .ok (.iastore, 1) := by decide +kernel
theorem dX5_findBar_98 : decode cX5_findBar 98 = .ok (.aload_n 0, 1) := by decide +kernel
theorem dX5_findBar_99 : decode cX5_findBar 99 = .ok (.getfield 24, 3) := by decide +kernel
theorem dX5_findBar_102 : decode cX5_findBar 102 = .ok (.iload 5, 2) := by decide +kernel
theorem dX5_findBar_104 : decode cX5_findBar 104 = .ok (.iaload, 1) := by decide +kernel
theorem dX5_findBar_105 : decode cX5_findBar 105 = .ok (.iconst (-1), 1) := by decide +kernel
theorem dX5_findBar_106 : decode cX5_findBar 106 = .ok (.if_icmp .ne 11, 3) := by decide +kernel
theorem dX5_findBar_109 : decode cX5_findBar 109 = .ok (.aload_n 0, 1) := by decide +kernel
theorem dX5_findBar_110 : decode cX5_findBar 110 = .ok (.iload 5, 2) := by decide +kernel
theorem dX5_findBar_112 : decode cX5_findBar 112 = .ok (.invokevirtual 80, 3) := by decide +kernel
theorem dX5_findBar_115 : decode cX5_findBar 115 = .ok (.iconst 1, 1) := by decide +kernel
theorem dX5_findBar_116 : decode cX5_findBar 116 = .ok (.ireturn, 1) := by decide +kernel
theorem dX5_findBar_117 : decode cX5_findBar 117 = .ok (.iload_n 2, 1) := by decide +kernel
theorem dX5_findBar_118 : decode cX5_findBar 118 = .ok (.bipush 8, 2) := by decide +kernel
theorem dX5_findBar_120 : decode cX5_findBar 120 = .ok (.if_icmp .ge 19, 3) := by decide +kernel
theorem dX5_findBar_123 : decode cX5_findBar 123 = .ok (.aload_n 0, 1) := by decide +kernel
theorem dX5_findBar_124 : decode cX5_findBar 124 = .ok (.getfield 34, 3) := by decide +kernel
theorem dX5_findBar_127 : decode cX5_findBar 127 = .ok (.iload_n 2, 1) := by decide +kernel
theorem dX5_findBar_128 : decode cX5_findBar 128 = .ok (.aload_n 0, 1) := by decide +kernel
theorem dX5_findBar_129 : decode cX5_findBar 129 = .ok (.getfield 24, 3) := by decide +kernel
theorem dX5_findBar_132 : decode cX5_findBar 132 = .ok (.iload 5, 2) := by decide +kernel
theorem dX5_findBar_134 : decode cX5_findBar 134 = .ok (.iaload, 1) := by decide +kernel
theorem dX5_findBar_135 : decode cX5_findBar 135 = .ok (.iastore, 1) := by decide +kernel
theorem dX5_findBar_136 : decode cX5_findBar 136 = .ok (.iinc 2 1, 3) := by decide +kernel
theorem dX5_findBar_139 : decode cX5_findBar 139 = .ok (.iinc 5 1, 3) := by decide +kernel
theorem dX5_findBar_142 : decode cX5_findBar 142 = .ok (.goto (-101), 3) := by decide +kernel
theorem dX5_findBar_145 : decode cX5_findBar 145 = .ok (.iinc 3 1, 3) := by decide +kernel
theorem dX5_findBar_148 : decode cX5_findBar 148 = .ok (.goto (-129), 3) := by decide +kernel
theorem dX5_findBar_151 : decode cX5_findBar 151 = .ok (.iconst 0, 1) := by decide +kernel
theorem dX5_findBar_152 : decode cX5_findBar 152 = .ok (.ireturn, 1) := by decide +kernel
theorem dX5_handOver_0 : decode cX5_handOver 0 = .ok (.iload_n 1, 1) := by decide +kernel
theorem dX5_handOver_1 : decode cX5_handOver 1 = .ok (.istore_n 2, 1) := by decide +kernel
theorem dX5_handOver_2 : decode cX5_handOver 2 = .ok (.iconst 0, 1) := by decide +kernel
theorem dX5_handOver_3 : decode cX5_handOver 3 = .ok (.istore_n 3, 1) := by decide +kernel
theorem dX5_handOver_4 : decode cX5_handOver 4 = .ok (.iload_n 3, 1) := by decide +kernel
theorem dX5_handOver_5 : decode cX5_handOver 5 = .ok (.bipush 8, 2) := by decide +kernel
theorem dX5_handOver_7 : decode cX5_handOver 7 = .ok (.if_icmp .ge 68, 3) := by decide +kernel
theorem dX5_handOver_10 : decode cX5_handOver 10 = .ok (.iload_n 2, 1) := by decide +kernel
theorem dX5_handOver_11 : decode cX5_handOver 11 = .ok (.ifCond .lt 64, 3) := by decide +kernel
theorem dX5_handOver_14 : decode cX5_handOver 14 = .ok (.iload_n 2, 1) := by decide +kernel
theorem dX5_handOver_15 : decode cX5_handOver 15 = .ok (.bipush 100, 2) := by decide +kernel
theorem dX5_handOver_17 : decode cX5_handOver 17 = .ok (.if_icmp .ge 58, 3) := by decide +kernel
theorem dX5_handOver_20 : decode cX5_handOver 20 = .ok (.aload_n 0, 1) := by decide +kernel
theorem dX5_handOver_21 : decode cX5_handOver 21 = .ok (.getfield 31, 3) := by decide +kernel
theorem dX5_handOver_24 : decode cX5_handOver 24 = .ok (.iload_n 2, 1) := by decide +kernel
theorem dX5_handOver_25 : decode cX5_handOver 25 = .ok (.iaload, 1) := by decide +kernel
theorem dX5_handOver_26 : decode cX5_handOver 26 = .ok (.istore 4, 2) := by decide +kernel
theorem dX5_handOver_28 : decode cX5_handOver 28 = .ok (.iload 4, 2) := by decide +kernel
theorem dX5_handOver_30 : decode cX5_handOver 30 = .ok (.ifCond .lt 10, 3) := by decide +kernel
theorem dX5_handOver_33 : decode cX5_handOver 33 = .ok (.iload 4, 2) := by decide +kernel
theorem dX5_handOver_35 : decode cX5_handOver 35 = .ok (.bipush 8, 2) := by decide +kernel
theorem dX5_handOver_37 : decode cX5_handOver 37 = .ok (.if_icmp .lt 4, 3) := by decide +kernel
theorem dX5_handOver_40 : decode cX5_handOver 40 = .ok (.return_, 1) := by decide +kernel
theorem dX5_handOver_41 : decode cX5_handOver 41 = .ok (.aload_n 0, 1) := by decide +kernel
theorem dX5_handOver_42 : decode cX5_handOver 42 = .ok (.getfield 18, 3) := by decide +kernel
theorem dX5_handOver_45 : decode cX5_handOver 45 = .ok (.iload 4, 2) := by decide +kernel
theorem dX5_handOver_47 : decode cX5_handOver 47 = .ok (.iaload, 1) := by decide +kernel
theorem dX5_handOver_48 : decode cX5_handOver 48 = .ok (.istore 5, 2) := by decide +kernel
theorem dX5_handOver_50 : decode cX5_handOver 50 = .ok (.aload_n 0, 1) := by decide +kernel
theorem dX5_handOver_51 : decode cX5_handOver 51 = .ok (.getfield 18, 3) := by decide +kernel
theorem dX5_handOver_54 : decode cX5_handOver 54 = .ok (.iload 4, 2) := by decide +kernel
theorem dX5_handOver_56 : decode cX5_handOver 56 = .ok (.iload_n 2, 1) := by decide +kernel
theorem dX5_handOver_57 : decode cX5_handOver 57 = .ok (.iastore, 1) := by decide +kernel
theorem dX5_handOver_58 : decode cX5_handOver 58 = .ok (.aload_n 0, 1) := by decide +kernel
theorem dX5_handOver_59 : decode cX5_handOver 59 = .ok (.getfield 24, 3) := by decide +kernel
theorem dX5_handOver_62 : decode cX5_handOver 62 = .ok (.iload_n 2, 1) := by decide +kernel
theorem dX5_handOver_63 : decode cX5_handOver 63 = .ok (.iload 4, 2) := by decide +kernel
theorem dX5_handOver_65 : decode cX5_handOver 65 = .ok (.iastore, 1) := by decide +kernel
theorem dX5_handOver_66 : decode cX5_handOver 66 = .ok (.iload 5, 2) := by decide +kernel
theorem dX5_handOver_68 : decode cX5_handOver 68 = .ok (.istore_n 2, 1) := by decide +kernel
theorem dX5_handOver_69 : decode cX5_handOver 69 = .ok (.iinc 3 1, 3) := by decide +kernel
theorem dX5_handOver_72 : decode cX5_handOver 72 = .ok (.goto (-68), 3) := by decide +kernel
theorem dX5_handOver_75 : decode cX5_handOver 75 = .ok (.return_, 1) := by decide +kernel
theorem dX5_lowerBar_0 : decode cX5_lowerBar 0 = .ok (.iconst 0, 1) := by decide +kernel
theorem dX5_lowerBar_1 : decode cX5_lowerBar 1 = .ok (.istore_n 2, 1) := by decide +kernel
theorem dX5_lowerBar_2 : decode cX5_lowerBar 2 = .ok (.iload_n 2, 1) := by decide +kernel
theorem dX5_lowerBar_3 : decode cX5_lowerBar 3 = .ok (.aload_n 0, 1) := by decide +kernel
theorem dX5_lowerBar_4 : decode cX5_lowerBar 4 = .ok (.getfield 18, 3) := by decide +kernel
theorem dX5_lowerBar_7 : decode cX5_lowerBar 7 = .ok (.iload_n 1, 1) := by decide +kernel
theorem dX5_lowerBar_8 : decode cX5_lowerBar 8 = .ok (.iaload, 1) := by decide +kernel
theorem dX5_lowerBar_9 : decode cX5_lowerBar 9 = .ok (.if_icmp .ge 51, 3) := by decide +kernel
theorem dX5_lowerBar_12 : decode cX5_lowerBar 12 = .ok (.iload_n 2, 1) := by decide +kernel
theorem dX5_lowerBar_13 : decode cX5_lowerBar 13 = .ok (.aload_n 0, 1) := by decide +kernel
theorem dX5_lowerBar_14 : decode cX5_lowerBar 14 = .ok (.getfield 47, 3) := by decide +kernel
theorem dX5_lowerBar_17 : decode cX5_lowerBar 17 = .ok (.if_icmp .ge 43, 3) := by decide +kernel
theorem dX5_lowerBar_20 : decode cX5_lowerBar 20 = .ok (.aload_n 0, 1) := by decide +kernel
theorem dX5_lowerBar_21 : decode cX5_lowerBar 21 = .ok (.getfield 21, 3) := by decide +kernel
theorem dX5_lowerBar_24 : decode cX5_lowerBar 24 = .ok (.iload_n 2, 1) := by decide +kernel
theorem dX5_lowerBar_25 : decode cX5_lowerBar 25 = .ok (.iaload, 1) := by decide +kernel
theorem dX5_lowerBar_26 : decode cX5_lowerBar 26 = .ok (.iload_n 1, 1) := by decide +kernel
theorem dX5_lowerBar_27 : decode cX5_lowerBar 27 = .ok (.ishr, 1) := by decide +kernel
theorem dX5_lowerBar_28 : decode cX5_lowerBar 28 = .ok (.iconst 1, 1) := by decide +kernel
theorem dX5_lowerBar_29 : decode cX5_lowerBar 29 = .ok (.iand, 1) := by decide +kernel
theorem dX5_lowerBar_30 : decode cX5_lowerBar 30 = .ok (.ifCond .eq 24, 3) := by decide +kernel
theorem dX5_lowerBar_33 : decode cX5_lowerBar 33 = .ok (.aload_n 0, 1) := by decide +kernel
theorem dX5_lowerBar_34 : decode cX5_lowerBar 34 = .ok (.getfield 27, 3) := by decide +kernel
theorem dX5_lowerBar_37 : decode cX5_lowerBar 37 = .ok (.iload_n 2, 1) := by decide +kernel
theorem dX5_lowerBar_38 : decode cX5_lowerBar 38 = .ok (.baload, 1) := by decide +kernel
theorem dX5_lowerBar_39 : decode cX5_lowerBar 39 = .ok (.ifCond .ne 15, 3) := by decide +kernel
theorem dX5_lowerBar_42 : decode cX5_lowerBar 42 = .ok (.aload_n 0, 1) := by decide +kernel
theorem dX5_lowerBar_43 : decode cX5_lowerBar 43 = .ok (.iload_n 1, 1) := by decide +kernel
theorem dX5_lowerBar_44 : decode cX5_lowerBar 44 = .ok (.iload_n 2, 1) := by decide +kernel
theorem dX5_lowerBar_45 : decode cX5_lowerBar 45 = .ok (.invokevirtual 83, 3) := by decide +kernel
theorem dX5_lowerBar_48 : decode cX5_lowerBar 48 = .ok (.ifCond .eq 6, 3) := by decide +kernel
theorem dX5_lowerBar_51 : decode cX5_lowerBar 51 = .ok (.goto 9, 3) := by decide +kernel
theorem dX5_lowerBar_54 : decode cX5_lowerBar 54 = .ok (.iinc 2 1, 3) := by decide +kernel
theorem dX5_lowerBar_57 : decode cX5_lowerBar 57 = .ok (.goto (-55), 3) := by decide +kernel
theorem dX5_lowerBar_60 : decode cX5_lowerBar 60 = .ok (.aload_n 0, 1) := by decide +kernel
theorem dX5_lowerBar_61 : decode cX5_lowerBar 61 = .ok (.getfield 18, 3) := by decide +kernel
theorem dX5_lowerBar_64 : decode cX5_lowerBar 64 = .ok (.iload_n 1, 1) := by decide +kernel
theorem dX5_lowerBar_65 : decode cX5_lowerBar 65 = .ok (.iaload, 1) := by decide +kernel
theorem dX5_lowerBar_66 : decode cX5_lowerBar 66 = .ok (.istore_n 2, 1) := by decide +kernel
theorem dX5_lowerBar_67 : decode cX5_lowerBar 67 = .ok (.iload_n 2, 1) := by decide +kernel
theorem dX5_lowerBar_68 : decode cX5_lowerBar 68 = .ok (.ifCond .lt 16, 3) := by decide +kernel
theorem dX5_lowerBar_71 : decode cX5_lowerBar 71 = .ok (.iload_n 2, 1) := by decide +kernel
theorem dX5_lowerBar_72 : decode cX5_lowerBar 72 = .ok (.bipush 100, 2) := by decide +kernel
theorem dX5_lowerBar_74 : decode cX5_lowerBar 74 = .ok (.if_icmp .ge 10, 3) := by decide +kernel
theorem dX5_lowerBar_77 : decode cX5_lowerBar 77 = .ok (.aload_n 0, 1) := by decide +kernel
theorem dX5_lowerBar_78 : decode cX5_lowerBar 78 = .ok (.getfield 27, 3) := by decide +kernel
theorem dX5_lowerBar_81 : decode cX5_lowerBar 81 = .ok (.iload_n 2, 1) := by decide +kernel
theorem dX5_lowerBar_82 : decode cX5_lowerBar 82 = .ok (.iconst 1, 1) := by decide +kernel
theorem dX5_lowerBar_83 : decode cX5_lowerBar 83 = .ok (.bastore, 1) := by decide +kernel
theorem dX5_lowerBar_84 : decode cX5_lowerBar 84 = .ok (.return_, 1) := by decide +kernel
theorem dX5_swapTo_0 : decode cX5_swapTo 0 = .ok (.aload_n 0, 1) := by decide +kernel
theorem dX5_swapTo_1 : decode cX5_swapTo 1 = .ok (.getfield 18, 3) := by decide +kernel
theorem dX5_swapTo_4 : decode cX5_swapTo 4 = .ok (.iload_n 1, 1) := by decide +kernel
theorem dX5_swapTo_5 : decode cX5_swapTo 5 = .ok (.iaload, 1) := by decide +kernel
theorem dX5_swapTo_6 : decode cX5_swapTo 6 = .ok (.istore_n 3, 1) := by decide +kernel
theorem dX5_swapTo_7 : decode cX5_swapTo 7 = .ok (.aload_n 0, 1) := by decide +kernel
theorem dX5_swapTo_8 : decode cX5_swapTo 8 = .ok (.getfield 24, 3) := by decide +kernel
theorem dX5_swapTo_11 : decode cX5_swapTo 11 = .ok (.iload_n 2, 1) := by decide +kernel
theorem dX5_swapTo_12 : decode cX5_swapTo 12 = .ok (.iaload, 1) := by decide +kernel
theorem dX5_swapTo_13 : decode cX5_swapTo 13 = .ok (.istore 4, 2) := by decide +kernel
theorem dX5_swapTo_15 : decode cX5_swapTo 15 = .ok (.iload_n 3, 1) := by decide +kernel
theorem dX5_swapTo_16 : decode cX5_swapTo 16 = .ok (.ifCond .lt 9, 3) := by decide +kernel
theorem dX5_swapTo_19 : decode cX5_swapTo 19 = .ok (.iload_n 3, 1) := by decide +kernel
theorem dX5_swapTo_20 : decode cX5_swapTo 20 = .ok (.bipush 100, 2) := by decide +kernel
theorem dX5_swapTo_22 : decode cX5_swapTo 22 = .ok (.if_icmp .lt 5, 3) := by decide +kernel
theorem dX5_swapTo_25 : decode cX5_swapTo 25 = .ok (.iconst 0, 1) := by decide +kernel
theorem dX5_swapTo_26 : decode cX5_swapTo 26 = .ok (.ireturn, 1) := by decide +kernel
theorem dX5_swapTo_27 : decode cX5_swapTo 27 = .ok (.aload_n 0, 1) := by decide +kernel
theorem dX5_swapTo_28 : decode cX5_swapTo 28 = .ok (.getfield 24, 3) := by decide +kernel
theorem dX5_swapTo_31 : decode cX5_swapTo 31 = .ok (.iload_n 3, 1) := by decide +kernel
theorem dX5_swapTo_32 : decode cX5_swapTo 32 = .ok (.iconst (-1), 1) := by decide +kernel
theorem dX5_swapTo_33 : decode cX5_swapTo 33 = .ok (.iastore, 1) := by decide +kernel
theorem dX5_swapTo_34 : decode cX5_swapTo 34 = .ok (.aload_n 0, 1) := by decide +kernel
theorem dX5_swapTo_35 : decode cX5_swapTo 35 = .ok (.getfield 24, 3) := by decide +kernel
theorem dX5_swapTo_38 : decode cX5_swapTo 38 = .ok (.iload_n 2, 1) := by decide +kernel
theorem dX5_swapTo_39 : decode cX5_swapTo 39 = .ok (.iload_n 1, 1) := by decide +kernel
theorem dX5_swapTo_40 : decode cX5_swapTo 40 = .ok (.iastore, 1) := by decide +kernel
theorem dX5_swapTo_41 : decode cX5_swapTo 41 = .ok (.aload_n 0, 1) := by decide +kernel
theorem dX5_swapTo_42 : decode cX5_swapTo 42 = .ok (.getfield 18, 3) := by decide +kernel
theorem dX5_swapTo_45 : decode cX5_swapTo 45 = .ok (.iload_n 1, 1) := by decide +kernel
theorem dX5_swapTo_46 : decode cX5_swapTo 46 = .ok (.iload_n 2, 1) := by decide +kernel
theorem dX5_swapTo_47 : decode cX5_swapTo 47 = .ok (.iastore, 1) := by decide +kernel
theorem dX5_swapTo_48 : decode cX5_swapTo 48 = .ok (.iload 4, 2) := by decide +kernel
theorem dX5_swapTo_50 : decode cX5_swapTo 50 = .ok (.ifCond .lt 10, 3) := by decide +kernel
theorem dX5_swapTo_53 : decode cX5_swapTo 53 = .ok (.iload 4, 2) := by decide +kernel
theorem dX5_swapTo_55 : decode cX5_swapTo 55 = .ok (.bipush 8, 2) := by decide +kernel
theorem dX5_swapTo_57 : decode cX5_swapTo 57 = .ok (.if_icmp .lt 5, 3) := by decide +kernel
theorem dX5_swapTo_60 : decode cX5_swapTo 60 = .ok (.iconst 1, 1) := by decide +kernel
theorem dX5_swapTo_61 : decode cX5_swapTo 61 = .ok (.ireturn, 1) := by decide +kernel
theorem dX5_swapTo_62 : decode cX5_swapTo 62 = .ok (.aload_n 0, 1) := by decide +kernel
theorem dX5_swapTo_63 : decode cX5_swapTo 63 = .ok (.getfield 18, 3) := by decide +kernel
theorem dX5_swapTo_66 : decode cX5_swapTo 66 = .ok (.iload 4, 2) := by decide +kernel
theorem dX5_swapTo_68 : decode cX5_swapTo 68 = .ok (.iconst (-1), 1) := by decide +kernel
theorem dX5_swapTo_69 : decode cX5_swapTo 69 = .ok (.iastore, 1) := by decide +kernel
theorem dX5_swapTo_70 : decode cX5_swapTo 70 = .ok (.aload_n 0, 1) := by decide +kernel
theorem dX5_swapTo_71 : decode cX5_swapTo 71 = .ok (.getfield 27, 3) := by decide +kernel
theorem dX5_swapTo_74 : decode cX5_swapTo 74 = .ok (.iload_n 2, 1) := by decide +kernel
theorem dX5_swapTo_75 : decode cX5_swapTo 75 = .ok (.iconst 1, 1) := by decide +kernel
theorem dX5_swapTo_76 : decode cX5_swapTo 76 = .ok (.bastore, 1) := by decide +kernel
theorem dX5_swapTo_77 : decode cX5_swapTo 77 = .ok (.aload_n 0, 1) := by decide +kernel
theorem dX5_swapTo_78 : decode cX5_swapTo 78 = .ok (.iload 4, 2) := by decide +kernel
theorem dX5_swapTo_80 : decode cX5_swapTo 80 = .ok (.invokevirtual 72, 3) := by decide +kernel
theorem dX5_swapTo_83 : decode cX5_swapTo 83 = .ok (.ifCond .eq 5, 3) := by decide +kernel
theorem dX5_swapTo_86 : decode cX5_swapTo 86 = .ok (.iconst 1, 1) := by decide +kernel
theorem dX5_swapTo_87 : decode cX5_swapTo 87 = .ok (.ireturn, 1) := by decide +kernel
theorem dX5_swapTo_88 : decode cX5_swapTo 88 = .ok (.aload_n 0, 1) := by decide +kernel
theorem dX5_swapTo_89 : decode cX5_swapTo 89 = .ok (.getfield 27, 3) := by decide +kernel
theorem dX5_swapTo_92 : decode cX5_swapTo 92 = .ok (.iload_n 2, 1) := by decide +kernel
theorem dX5_swapTo_93 : decode cX5_swapTo 93 = .ok (.iconst 0, 1) := by decide +kernel
theorem dX5_swapTo_94 : decode cX5_swapTo 94 = .ok (.bastore, 1) := by decide +kernel
theorem dX5_swapTo_95 : decode cX5_swapTo 95 = .ok (.aload_n 0, 1) := by decide +kernel
theorem dX5_swapTo_96 : decode cX5_swapTo 96 = .ok (.getfield 24, 3) := by decide +kernel
theorem dX5_swapTo_99 : decode cX5_swapTo 99 = .ok (.iload_n 3, 1) := by decide +kernel
theorem dX5_swapTo_100 : decode cX5_swapTo 100 = .ok (.iload_n 1, 1) := by decide +kernel
theorem dX5_swapTo_101 : decode cX5_swapTo 101 = .ok (.iastore, 1) := by decide +kernel
theorem dX5_swapTo_102 : decode cX5_swapTo 102 = .ok (.aload_n 0, 1) := by decide +kernel
theorem dX5_swapTo_103 : decode cX5_swapTo 103 = .ok (.getfield 24, 3) := by decide +kernel
theorem dX5_swapTo_106 : decode cX5_swapTo 106 = .ok (.iload_n 2, 1) := by decide +kernel
theorem dX5_swapTo_107 : decode cX5_swapTo 107 = .ok (.iload 4, 2) := by decide +kernel
theorem dX5_swapTo_109 : decode cX5_swapTo 109 = .ok (.iastore, 1) := by decide +kernel
theorem dX5_swapTo_110 : decode cX5_swapTo 110 = .ok (.aload_n 0, 1) := by decide +kernel
theorem dX5_swapTo_111 : decode cX5_swapTo 111 = .ok (.getfield 18, 3) := by decide +kernel
theorem dX5_swapTo_114 : decode cX5_swapTo 114 = .ok (.iload_n 1, 1) := by decide +kernel
theorem dX5_swapTo_115 : decode cX5_swapTo 115 = .ok (.iload_n 3, 1) := by decide +kernel
theorem dX5_swapTo_116 : decode cX5_swapTo 116 = .ok (.iastore, 1) := by decide +kernel
theorem dX5_swapTo_117 : decode cX5_swapTo 117 = .ok (.aload_n 0, 1) := by decide +kernel
theorem dX5_swapTo_118 : decode cX5_swapTo 118 = .ok (.getfield 18, 3) := by decide +kernel
theorem dX5_swapTo_121 : decode cX5_swapTo 121 = .ok (.iload 4, 2) := by decide +kernel
theorem dX5_swapTo_123 : decode cX5_swapTo 123 = .ok (.iload_n 2, 1) := by decide +kernel
theorem dX5_swapTo_124 : decode cX5_swapTo 124 = .ok (.iastore, 1) := by decide +kernel
theorem dX5_swapTo_125 : decode cX5_swapTo 125 = .ok (.iconst 0, 1) := by decide +kernel
theorem dX5_swapTo_126 : decode cX5_swapTo 126 = .ok (.ireturn, 1) := by decide +kernel
theorem dX5_metCount_0 : decode cX5_metCount 0 = .ok (.iconst 0, 1) := by decide +kernel
theorem dX5_metCount_1 : decode cX5_metCount 1 = .ok (.istore_n 1, 1) := by decide +kernel
theorem dX5_metCount_2 : decode cX5_metCount 2 = .ok (.iconst 0, 1) := by decide +kernel
theorem dX5_metCount_3 : decode cX5_metCount 3 = .ok (.istore_n 2, 1) := by decide +kernel
theorem dX5_metCount_4 : decode cX5_metCount 4 = .ok (.iload_n 2, 1) := by decide +kernel
theorem dX5_metCount_5 : decode cX5_metCount 5 = .ok (.aload_n 0, 1) := by decide +kernel
theorem dX5_metCount_6 : decode cX5_metCount 6 = .ok (.getfield 37, 3) := by decide +kernel
theorem dX5_metCount_9 : decode cX5_metCount 9 = .ok (.if_icmp .ge 28, 3) := by decide +kernel
theorem dX5_metCount_12 : decode cX5_metCount 12 = .ok (.iload_n 2, 1) := by decide +kernel
theorem dX5_metCount_13 : decode cX5_metCount 13 = .ok (.bipush 8, 2) := by decide +kernel
theorem dX5_metCount_15 : decode cX5_metCount 15 = .ok (.if_icmp .ge 22, 3) := by decide +kernel
theorem dX5_metCount_18 : decode cX5_metCount 18 = .ok (.aload_n 0, 1) := by decide +kernel
theorem dX5_metCount_19 : decode cX5_metCount 19 = .ok (.getfield 18, 3) := by decide +kernel
theorem dX5_metCount_22 : decode cX5_metCount 22 = .ok (.iload_n 2, 1) := by decide +kernel
theorem dX5_metCount_23 : decode cX5_metCount 23 = .ok (.iaload, 1) := by decide +kernel
theorem dX5_metCount_24 : decode cX5_metCount 24 = .ok (.iconst (-1), 1) := by decide +kernel
theorem dX5_metCount_25 : decode cX5_metCount 25 = .ok (.if_icmp .eq 6, 3) := by decide +kernel
theorem dX5_metCount_28 : decode cX5_metCount 28 = .ok (.iinc 1 1, 3) := by decide +kernel
theorem dX5_metCount_31 : decode cX5_metCount 31 = .ok (.iinc 2 1, 3) := by decide +kernel
theorem dX5_metCount_34 : decode cX5_metCount 34 = .ok (.goto (-30), 3) := by decide +kernel
theorem dX5_metCount_37 : decode cX5_metCount 37 = .ok (.iload_n 1, 1) := by decide +kernel
theorem dX5_metCount_38 : decode cX5_metCount 38 = .ok (.ireturn, 1) := by decide +kernel
theorem dX5_leastWanting_0 : decode cX5_leastWanting 0 = .ok (.iconst 1, 1) := by decide +kernel
theorem dX5_leastWanting_1 : decode cX5_leastWanting 1 = .ok (.istore_n 1, 1) := by decide +kernel
theorem dX5_leastWanting_2 : decode cX5_leastWanting 2 = .ok (.iload_n 1, 1) := by decide +kernel
theorem dX5_leastWanting_3 : decode cX5_leastWanting 3 = .ok (.iconst 1, 1) := by decide +kernel
theorem dX5_leastWanting_4 : decode cX5_leastWanting 4 = .ok (.aload_n 0, 1) := by decide +kernel
theorem dX5_leastWanting_5 : decode cX5_leastWanting 5 = .ok (.getfield 37, 3) := by decide +kernel
theorem dX5_leastWanting_8 : decode cX5_leastWanting 8 = .ok (.bipush 8, 2) := by decide +kernel
theorem dX5_leastWanting_10 : decode cX5_leastWanting 10 = .ok (.invokestatic 41, 3) := by decide +kernel
theorem dX5_leastWanting_13 : decode cX5_leastWanting 13 = .ok (.ishl, 1) := by decide +kernel
theorem dX5_leastWanting_14 : decode cX5_leastWanting 14 = .ok (.if_icmp .ge 23, 3) := by decide +kernel
theorem dX5_leastWanting_17 : decode cX5_leastWanting 17 = .ok (.aload_n 0, 1) := by decide +kernel
theorem dX5_leastWanting_18 : decode cX5_leastWanting 18 = .ok (.iload_n 1, 1) := by decide +kernel
theorem dX5_leastWanting_19 : decode cX5_leastWanting 19 = .ok (.invokevirtual 87, 3) := by decide +kernel
theorem dX5_leastWanting_22 : decode cX5_leastWanting 22 = .ok (.iload_n 1, 1) := by decide +kernel
theorem dX5_leastWanting_23 : decode cX5_leastWanting 23 = .ok (.invokestatic 91, 3) := by decide +kernel
theorem dX5_leastWanting_26 : decode cX5_leastWanting 26 = .ok (.if_icmp .ge 5, 3) := by decide +kernel
theorem dX5_leastWanting_29 : decode cX5_leastWanting 29 = .ok (.iload_n 1, 1) := by decide +kernel
theorem dX5_leastWanting_30 : decode cX5_leastWanting 30 = .ok (.ireturn, 1) := by decide +kernel
theorem dX5_leastWanting_31 : decode cX5_leastWanting 31 = .ok (.iinc 1 1, 3) := by decide +kernel
theorem dX5_leastWanting_34 : decode cX5_leastWanting 34 = .ok (.goto (-32), 3) := by decide +kernel
theorem dX5_leastWanting_37 : decode cX5_leastWanting 37 = .ok (.iconst 0, 1) := by decide +kernel
theorem dX5_leastWanting_38 : decode cX5_leastWanting 38 = .ok (.ireturn, 1) := by decide +kernel
theorem dX5_barsFor_0 : decode cX5_barsFor 0 = .ok (.iconst 0, 1) := by decide +kernel
theorem dX5_barsFor_1 : decode cX5_barsFor 1 = .ok (.istore_n 2, 1) := by decide +kernel
theorem dX5_barsFor_2 : decode cX5_barsFor 2 = .ok (.iconst 0, 1) := by decide +kernel
theorem dX5_barsFor_3 : decode cX5_barsFor 3 = .ok (.istore_n 3, 1) := by decide +kernel
theorem dX5_barsFor_4 : decode cX5_barsFor 4 = .ok (.iload_n 3, 1) := by decide +kernel
theorem dX5_barsFor_5 : decode cX5_barsFor 5 = .ok (.aload_n 0, 1) := by decide +kernel
theorem dX5_barsFor_6 : decode cX5_barsFor 6 = .ok (.getfield 47, 3) := by decide +kernel
theorem dX5_barsFor_9 : decode cX5_barsFor 9 = .ok (.if_icmp .ge 29, 3) := by decide +kernel
theorem dX5_barsFor_12 : decode cX5_barsFor 12 = .ok (.iload_n 2, 1) := by decide +kernel
theorem dX5_barsFor_13 : decode cX5_barsFor 13 = .ok (.bipush 8, 2) := by decide +kernel
theorem dX5_barsFor_15 : decode cX5_barsFor 15 = .ok (.if_icmp .ge 23, 3) := by decide +kernel
theorem dX5_barsFor_18 : decode cX5_barsFor 18 = .ok (.aload_n 0, 1) := by decide +kernel
theorem dX5_barsFor_19 : decode cX5_barsFor 19 = .ok (.getfield 21, 3) := by decide +kernel
theorem dX5_barsFor_22 : decode cX5_barsFor 22 = .ok (.iload_n 3, 1) := by decide +kernel
theorem dX5_barsFor_23 : decode cX5_barsFor 23 = .ok (.iaload, 1) := by decide +kernel
theorem dX5_barsFor_24 : decode cX5_barsFor 24 = .ok (.iload_n 1, 1) := by decide +kernel
theorem dX5_barsFor_25 : decode cX5_barsFor 25 = .ok (.iand, 1) := by decide +kernel
theorem dX5_barsFor_26 : decode cX5_barsFor 26 = .ok (.ifCond .eq 6, 3) := by decide +kernel
theorem dX5_barsFor_29 : decode cX5_barsFor 29 = .ok (.iinc 2 1, 3) := by decide +kernel
theorem dX5_barsFor_32 : decode cX5_barsFor 32 = .ok (.iinc 3 1, 3) := by decide +kernel
theorem dX5_barsFor_35 : decode cX5_barsFor 35 = .ok (.goto (-31), 3) := by decide +kernel
theorem dX5_barsFor_38 : decode cX5_barsFor 38 = .ok (.iload_n 2, 1) := by decide +kernel
theorem dX5_barsFor_39 : decode cX5_barsFor 39 = .ok (.ireturn, 1) := by decide +kernel
theorem dX6_init_0 : decode cX6_init 0 = .ok (.aload_n 0, 1) := by decide +kernel
theorem dX6_init_1 : decode cX6_init 1 = .ok (.invokespecial 3, 3) := by decide +kernel
theorem dX6_init_4 : decode cX6_init 4 = .ok (.aload_n 0, 1) := by decide +kernel
theorem dX6_init_5 : decode cX6_init 5 = .ok (.bipush 12, 2) := by decide +kernel
theorem dX6_init_7 : decode cX6_init 7 = .ok (.newarray .int, 2) := by decide +kernel
theorem dX6_init_9 : decode cX6_init 9 = .ok (.putfield 9, 3) := by decide +kernel
theorem dX6_init_12 : decode cX6_init 12 = .ok (.aload_n 0, 1) := by decide +kernel
theorem dX6_init_13 : decode cX6_init 13 = .ok (.bipush 12, 2) := by decide +kernel
theorem dX6_init_15 : decode cX6_init 15 = .ok (.newarray .long, 2) := by decide +kernel
theorem dX6_init_17 : decode cX6_init 17 = .ok (.putfield 15, 3) := by decide +kernel
theorem dX6_init_20 : decode cX6_init 20 = .ok (.return_, 1) := by decide +kernel
theorem dX6_divide_0 : decode cX6_divide 0 = .ok (.aload_n 0, 1) := by decide +kernel
theorem dX6_divide_1 : decode cX6_divide 1 = .ok (.getfield 9, 3) := by decide +kernel
theorem dX6_divide_4 : decode cX6_divide 4 = .ok (.iconst 0, 1) := by decide +kernel
theorem dX6_divide_5 : decode cX6_divide 5 = .ok (.invokestatic 19, 3) := by decide +kernel
theorem dX6_divide_8 : decode cX6_divide 8 = .ok (.aload_n 2, 1) := by decide +kernel
theorem dX6_divide_9 : decode cX6_divide 9 = .ok (.arraylength, 1) := by decide +kernel
theorem dX6_divide_10 : decode cX6_divide 10 = .ok (.aload_n 0, 1) := by decide +kernel
theorem dX6_divide_11 : decode cX6_divide 11 = .ok (.getfield 9, 3) := by decide +kernel
theorem dX6_divide_14 : decode cX6_divide 14 = .ok (.arraylength, 1) := by decide +kernel
theorem dX6_divide_15 : decode cX6_divide 15 = .ok (.invokestatic 25, 3) := by decide +kernel
theorem dX6_divide_18 : decode cX6_divide 18 = .ok (.istore_n 3, 1) := by decide +kernel
theorem dX6_divide_19 : decode cX6_divide 19 = .ok (.lconst 0, 1) := by decide +kernel
theorem dX6_divide_20 : decode cX6_divide 20 = .ok (.lstore 4, 2) := by decide +kernel
theorem dX6_divide_22 : decode cX6_divide 22 = .ok (.iconst 0, 1) := by decide +kernel
theorem dX6_divide_23 : decode cX6_divide 23 = .ok (.istore 6, 2) := by decide +kernel
theorem dX6_divide_25 : decode cX6_divide 25 = .ok (.iload 6, 2) := by decide +kernel
theorem dX6_divide_27 : decode cX6_divide 27 = .ok (.iload_n 3, 1) := by decide +kernel
theorem dX6_divide_28 : decode cX6_divide 28 = .ok (.if_icmp .ge 19, 3) := by decide +kernel
theorem dX6_divide_31 : decode cX6_divide 31 = .ok (.lload 4, 2) := by decide +kernel
theorem dX6_divide_33 : decode cX6_divide 33 = .ok (.aload_n 2, 1) := by decide +kernel
theorem dX6_divide_34 : decode cX6_divide 34 = .ok (.iload 6, 2) := by decide +kernel
theorem dX6_divide_36 : decode cX6_divide 36 = .ok (.iaload, 1) := by decide +kernel
theorem dX6_divide_37 : decode cX6_divide 37 = .ok (.i2l, 1) := by decide +kernel
theorem dX6_divide_38 : decode cX6_divide 38 = .ok (.ladd, 1) := by decide +kernel
theorem dX6_divide_39 : decode cX6_divide 39 = .ok (.lstore 4, 2) := by decide +kernel
theorem dX6_divide_41 : decode cX6_divide 41 = .ok (.iinc 6 1, 3) := by decide +kernel
theorem dX6_divide_44 : decode cX6_divide 44 = .ok (.goto (-19), 3) := by decide +kernel
theorem dX6_divide_47 : decode cX6_divide 47 = .ok (.lload 4, 2) := by decide +kernel
theorem dX6_divide_49 : decode cX6_divide 49 = .ok (.lconst 0, 1) := by decide +kernel
theorem dX6_divide_50 : decode cX6_divide 50 = .ok (.lcmp, 1) := by decide +kernel
theorem dX6_divide_51 : decode cX6_divide 51 = .ok (.ifCond .gt 5, 3) := by decide +kernel
theorem dX6_divide_54 : decode cX6_divide 54 = .ok (.iconst 0, 1) := by decide +kernel
theorem dX6_divide_55 : decode cX6_divide 55 = .ok (.ireturn, 1) := by decide +kernel
theorem dX6_divide_56 : decode cX6_divide 56 = .ok (.iload_n 1, 1) := by decide +kernel
theorem dX6_divide_57 : decode cX6_divide 57 = .ok (.istore 6, 2) := by decide +kernel
theorem dX6_divide_59 : decode cX6_divide 59 = .ok (.iconst 0, 1) := by decide +kernel
theorem dX6_divide_60 : decode cX6_divide 60 = .ok (.istore 7, 2) := by decide +kernel
theorem dX6_divide_62 : decode cX6_divide 62 = .ok (.iload 7, 2) := by decide +kernel
theorem dX6_divide_64 : decode cX6_divide 64 = .ok (.iload_n 3, 1) := by decide +kernel
theorem dX6_divide_65 : decode cX6_divide 65 = .ok (.if_icmp .ge 56, 3) := by decide +kernel
theorem dX6_divide_68 : decode cX6_divide 68 = .ok (.iload_n 1, 1) := by decide +kernel
theorem dX6_divide_69 : decode cX6_divide 69 = .ok (.i2l, 1) := by decide +kernel
theorem dX6_divide_70 : decode cX6_divide 70 = .ok (.aload_n 2, 1) := by decide +kernel
theorem dX6_divide_71 : decode cX6_divide 71 = .ok (.iload 7, 2) := by decide +kernel
theorem dX6_divide_73 : decode cX6_divide 73 = .ok (.iaload, 1) := by decide +kernel
theorem dX6_divide_74 : decode cX6_divide 74 = .ok (.i2l, 1) := by decide +kernel
theorem dX6_divide_75 : decode cX6_divide 75 = .ok (.lmul, 1) := by decide +kernel
theorem dX6_divide_76 : decode cX6_divide 76 = .ok (.lstore 8, 2) := by decide +kernel
theorem dX6_divide_78 : decode cX6_divide 78 = .ok (.aload_n 0, 1) := by decide +kernel
theorem dX6_divide_79 : decode cX6_divide 79 = .ok (.getfield 9, 3) := by decide +kernel
theorem dX6_divide_82 : decode cX6_divide 82 = .ok (.iload 7, 2) := by decide +kernel
theorem dX6_divide_84 : decode cX6_divide 84 = .ok (.lload 8, 2) := by decide +kernel
theorem dX6_divide_86 : decode cX6_divide 86 = .ok (.lload 4, 2) := by decide +kernel
theorem dX6_divide_88 : decode cX6_divide 88 = .ok (.ldiv, 1) := by decide +kernel
theorem dX6_divide_89 : decode cX6_divide 89 = .ok (.l2i, 1) := by decide +kernel
theorem dX6_divide_90 : decode cX6_divide 90 = .ok (.iastore, 1) := by decide +kernel
theorem dX6_divide_91 : decode cX6_divide 91 = .ok (.aload_n 0, 1) := by decide +kernel
theorem dX6_divide_92 : decode cX6_divide 92 = .ok (.getfield 15, 3) := by decide +kernel
theorem dX6_divide_95 : decode cX6_divide 95 = .ok (.iload 7, 2) := by decide +kernel
theorem dX6_divide_97 : decode cX6_divide 97 = .ok (.lload 8, 2) := by decide +kernel
theorem dX6_divide_99 : decode cX6_divide 99 = .ok (.lload 4, 2) := by decide +kernel
theorem dX6_divide_101 : decode cX6_divide 101 = .ok (.lrem, 1) := by decide +kernel
theorem dX6_divide_102 : decode cX6_divide 102 = .ok (.lastore, 1) := by decide +kernel
theorem dX6_divide_103 : decode cX6_divide 103 = .ok (.iload 6, 2) := by decide +kernel
theorem dX6_divide_105 : decode cX6_divide 105 = .ok (.aload_n 0, 1) := by decide +kernel
theorem dX6_divide_106 : decode cX6_divide 106 = .ok (.getfield 9, 3) := by decide +kernel
theorem dX6_divide_109 : decode cX6_divide 109 = .ok (.iload 7, 2) := by decide +kernel
theorem dX6_divide_111 : decode cX6_divide 111 = .ok (.iaload, 1) := by decide +kernel
theorem dX6_divide_112 : decode cX6_divide 112 = .ok (.isub, 1) := by decide +kernel
theorem dX6_divide_113 : decode cX6_divide 113 = .ok (.istore 6, 2) := by decide +kernel
theorem dX6_divide_115 : decode cX6_divide 115 = .ok (.iinc 7 1, 3) := by decide +kernel
theorem dX6_divide_118 : decode cX6_divide 118 = .ok (.goto (-56), 3) := by decide +kernel
theorem dX6_divide_121 : decode cX6_divide 121 = .ok (.iconst 0, 1) := by decide +kernel
theorem dX6_divide_122 : decode cX6_divide 122 = .ok (.istore 7, 2) := by decide +kernel
theorem dX6_divide_124 : decode cX6_divide 124 = .ok (.iload 7, 2) := by decide +kernel
theorem dX6_divide_126 : decode cX6_divide 126 = .ok (.iload 6, 2) := by decide +kernel
theorem dX6_divide_128 : decode cX6_divide 128 = .ok (.if_icmp .ge 43, 3) := by decide +kernel
theorem dX6_divide_131 : decode cX6_divide 131 = .ok (.iload 7, 2) := by decide +kernel
theorem dX6_divide_133 : decode cX6_divide 133 = .ok (.iload_n 3, 1) := by decide +kernel
theorem dX6_divide_134 : decode cX6_divide 134 = .ok (.if_icmp .ge 37, 3) := by decide +kernel
theorem dX6_divide_137 : decode cX6_divide 137 = .ok (.aload_n 0, 1) := by decide +kernel
theorem dX6_divide_138 : decode cX6_divide 138 = .ok (.iload_n 3, 1) := by decide +kernel
theorem dX6_divide_139 : decode cX6_divide 139 = .ok (.invokevirtual 31, 3) := by decide +kernel
theorem dX6_divide_142 : decode cX6_divide 142 = .ok (.istore 8, 2) := by decide +kernel
theorem dX6_divide_144 : decode cX6_divide 144 = .ok (.aload_n 0, 1) := by decide +kernel
theorem dX6_divide_145 : decode cX6_divide 145 = .ok (.getfield 9, 3) := by decide +kernel
theorem dX6_divide_148 : decode cX6_divide 148 = .ok (.iload 8, 2) := by decide +kernel
theorem dX6_divide_150 : decode cX6_divide 150 = .ok (.dup2, 1) := by decide +kernel
theorem dX6_divide_151 : decode cX6_divide 151 = .ok (.iaload, 1) := by decide +kernel
theorem dX6_divide_152 : decode cX6_divide 152 = .ok (.iconst 1, 1) := by decide +kernel
theorem dX6_divide_153 : decode cX6_divide 153 = .ok (.iadd, 1) := by decide +kernel
theorem dX6_divide_154 : decode cX6_divide 154 = .ok (.iastore, 1) := by decide +kernel
theorem dX6_divide_155 : decode cX6_divide 155 = .ok (.aload_n 0, 1) := by decide +kernel
theorem dX6_divide_156 : decode cX6_divide 156 = .ok (.getfield 15, 3) := by decide +kernel
theorem dX6_divide_159 : decode cX6_divide 159 = .ok (.iload 8, 2) := by decide +kernel
theorem dX6_divide_161 : decode cX6_divide 161 = .ok (.ldc2_w 35, 3) := by decide +kernel
theorem dX6_divide_164 : decode cX6_divide 164 = .ok (.lastore, 1) := by decide +kernel
theorem dX6_divide_165 : decode cX6_divide 165 = .ok (.iinc 7 1, 3) := by decide +kernel
theorem dX6_divide_168 : decode cX6_divide 168 = .ok (.goto (-44), 3) := by decide +kernel
theorem dX6_divide_171 : decode cX6_divide 171 = .ok (.iconst 1, 1) := by decide +kernel
theorem dX6_divide_172 : decode cX6_divide 172 = .ok (.ireturn, 1) := by decide +kernel
theorem dX6_greatestRest_0 : decode cX6_greatestRest 0 = .ok (.iconst 0, 1) := by decide +kernel
theorem dX6_greatestRest_1 : decode cX6_greatestRest 1 = .ok (.istore_n 2, 1) := by decide +kernel
theorem dX6_greatestRest_2 : decode cX6_greatestRest 2 = .ok (.iconst 1, 1) := by decide +kernel
theorem dX6_greatestRest_3 : decode cX6_greatestRest 3 = .ok (.istore_n 3, 1) := by decide +kernel
theorem dX6_greatestRest_4 : decode cX6_greatestRest 4 = .ok (.iload_n 3, 1) := by decide +kernel
theorem dX6_greatestRest_5 : decode cX6_greatestRest 5 = .ok (.iload_n 1, 1) := by decide +kernel
theorem dX6_greatestRest_6 : decode cX6_greatestRest 6 = .ok (.if_icmp .ge 27, 3) := by decide +kernel
theorem dX6_greatestRest_9 : decode cX6_greatestRest 9 = .ok (.aload_n 0, 1) := by decide +kernel
theorem dX6_greatestRest_10 : decode cX6_greatestRest 10 = .ok (.getfield 15, 3) := by decide +kernel
theorem dX6_greatestRest_13 : decode cX6_greatestRest 13 = .ok (.iload_n 3, 1) := by decide +kernel
theorem dX6_greatestRest_14 : decode cX6_greatestRest 14 = .ok (.laload, 1) := by decide +kernel
theorem dX6_greatestRest_15 : decode cX6_greatestRest 15 = .ok (.aload_n 0, 1) := by decide +kernel
theorem dX6_greatestRest_16 : decode cX6_greatestRest 16 = .ok (.getfield 15, 3) := by decide +kernel
theorem dX6_greatestRest_19 : decode cX6_greatestRest 19 = .ok (.iload_n 2, 1) := by decide +kernel
theorem dX6_greatestRest_20 : decode cX6_greatestRest 20 = .ok (.laload, 1) := by decide +kernel
theorem dX6_greatestRest_21 : decode cX6_greatestRest 21 = .ok (.lcmp, 1) := by decide +kernel
theorem dX6_greatestRest_22 : decode cX6_greatestRest 22 = .ok (.ifCond .le 5, 3) := by decide +kernel
theorem dX6_greatestRest_25 : decode cX6_greatestRest 25 = .ok (.iload_n 3, 1) := by decide +kernel
theorem dX6_greatestRest_26 : decode cX6_greatestRest 26 = .ok (.istore_n 2, 1) := by decide +kernel
theorem dX6_greatestRest_27 : decode cX6_greatestRest 27 = .ok (.iinc 3 1, 3) := by decide +kernel
theorem dX6_greatestRest_30 : decode cX6_greatestRest 30 = .ok (.goto (-26), 3) := by decide +kernel
theorem dX6_greatestRest_33 : decode cX6_greatestRest 33 = .ok (.iload_n 2, 1) := by decide +kernel
theorem dX6_greatestRest_34 : decode cX6_greatestRest 34 = .ok (.ireturn, 1) := by decide +kernel
theorem dX6_giveAllToFirst_0 : decode cX6_giveAllToFirst 0 = .ok (.aload_n 0, 1) := by decide +kernel
theorem dX6_giveAllToFirst_1 : decode cX6_giveAllToFirst 1 = .ok (.getfield 9, 3) := by decide +kernel
theorem dX6_giveAllToFirst_4 : decode cX6_giveAllToFirst 4 = .ok (.iconst 0, 1) := by decide +kernel
theorem dX6_giveAllToFirst_5 : decode cX6_giveAllToFirst 5 = .ok (.invokestatic 19, 3) := by decide +kernel
theorem dX6_giveAllToFirst_8 : decode cX6_giveAllToFirst 8 = .ok (.aload_n 0, 1) := by decide +kernel
theorem dX6_giveAllToFirst_9 : decode cX6_giveAllToFirst 9 = .ok (.getfield 9, 3) := by decide +kernel
theorem dX6_giveAllToFirst_12 : decode cX6_giveAllToFirst 12 = .ok (.iconst 0, 1) := by decide +kernel
theorem dX6_giveAllToFirst_13 : decode cX6_giveAllToFirst 13 = .ok (.iload_n 1, 1) := by decide +kernel
theorem dX6_giveAllToFirst_14 : decode cX6_giveAllToFirst 14 = .ok (.iastore, 1) := by decide +kernel
theorem dX6_giveAllToFirst_15 : decode cX6_giveAllToFirst 15 = .ok (.return_, 1) := by decide +kernel
theorem dX6_carry_0 : decode cX6_carry 0 = .ok (.aload_n 0, 1) := by decide +kernel
theorem dX6_carry_1 : decode cX6_carry 1 = .ok (.iload_n 1, 1) := by decide +kernel
theorem dX6_carry_2 : decode cX6_carry 2 = .ok (.aload_n 2, 1) := by decide +kernel
theorem dX6_carry_3 : decode cX6_carry 3 = .ok (.invokevirtual 37, 3) := by decide +kernel
theorem dX6_carry_6 : decode cX6_carry 6 = .ok (.pop, 1) := by decide +kernel
theorem dX6_carry_7 : decode cX6_carry 7 = .ok (.iconst 0, 1) := by decide +kernel
theorem dX6_carry_8 : decode cX6_carry 8 = .ok (.istore 4, 2) := by decide +kernel
theorem dX6_carry_10 : decode cX6_carry 10 = .ok (.iload 4, 2) := by decide +kernel
theorem dX6_carry_12 : decode cX6_carry 12 = .ok (.aload_n 2, 1) := by decide +kernel
theorem dX6_carry_13 : decode cX6_carry 13 = .ok (.arraylength, 1) := by decide +kernel
theorem dX6_carry_14 : decode cX6_carry 14 = .ok (.if_icmp .ge 54, 3) := by decide +kernel
theorem dX6_carry_17 : decode cX6_carry 17 = .ok (.iload 4, 2) := by decide +kernel
theorem dX6_carry_19 : decode cX6_carry 19 = .ok (.aload_n 3, 1) := by decide +kernel
theorem dX6_carry_20 : decode cX6_carry 20 = .ok (.arraylength, 1) := by decide +kernel
theorem dX6_carry_21 : decode cX6_carry 21 = .ok (.if_icmp .ge 47, 3) := by decide +kernel
theorem dX6_carry_24 : decode cX6_carry 24 = .ok (.iload 4, 2) := by decide +kernel
theorem dX6_carry_26 : decode cX6_carry 26 = .ok (.aload_n 0, 1) := by decide +kernel
theorem dX6_carry_27 : decode cX6_carry 27 = .ok (.getfield 9, 3) := by decide +kernel
theorem dX6_carry_30 : decode cX6_carry 30 = .ok (.arraylength, 1) := by decide +kernel
theorem dX6_carry_31 : decode cX6_carry 31 = .ok (.if_icmp .ge 37, 3) := by decide +kernel
theorem dX6_carry_34 : decode cX6_carry 34 = .ok (.aload_n 2, 1) := by decide +kernel
theorem dX6_carry_35 : decode cX6_carry 35 = .ok (.iload 4, 2) := by decide +kernel
theorem dX6_carry_37 : decode cX6_carry 37 = .ok (.dup2, 1) := by decide +kernel
theorem dX6_carry_38 : decode cX6_carry 38 = .ok (.iaload, 1) := by decide +kernel
theorem dX6_carry_39 : decode cX6_carry 39 = .ok (.aload_n 0, 1) := by decide +kernel
theorem dX6_carry_40 : decode cX6_carry 40 = .ok (.getfield 9, 3) := by decide +kernel
theorem dX6_carry_43 : decode cX6_carry 43 = .ok (.iload 4, 2) := by decide +kernel
theorem dX6_carry_45 : decode cX6_carry 45 = .ok (.iaload, 1) := by decide +kernel
theorem dX6_carry_46 : decode cX6_carry 46 = .ok (.isub, 1) := by decide +kernel
theorem dX6_carry_47 : decode cX6_carry 47 = .ok (.iastore, 1) := by decide +kernel
theorem dX6_carry_48 : decode cX6_carry 48 = .ok (.aload_n 3, 1) := by decide +kernel
theorem dX6_carry_49 : decode cX6_carry 49 = .ok (.iload 4, 2) := by decide +kernel
theorem dX6_carry_51 : decode cX6_carry 51 = .ok (.dup2, 1) := by decide +kernel
theorem dX6_carry_52 : decode cX6_carry 52 = .ok (.iaload, 1) := by decide +kernel
theorem dX6_carry_53 : decode cX6_carry 53 = .ok (.aload_n 0, 1) := by decide +kernel
theorem dX6_carry_54 : decode cX6_carry 54 = .ok (.getfield 9, 3) := by decide +kernel
theorem dX6_carry_57 : decode cX6_carry 57 = .ok (.iload 4, 2) := by decide +kernel
theorem dX6_carry_59 : decode cX6_carry 59 = .ok (.iaload, 1) := by decide +kernel
theorem dX6_carry_60 : decode cX6_carry 60 = .ok (.iadd, 1) := by decide +kernel
theorem dX6_carry_61 : decode cX6_carry 61 = .ok (.iastore, 1) := by decide +kernel
theorem dX6_carry_62 : decode cX6_carry 62 = .ok (.iinc 4 1, 3) := by decide +kernel
theorem dX6_carry_65 : decode cX6_carry 65 = .ok (.goto (-55), 3) := by decide +kernel
theorem dX6_carry_68 : decode cX6_carry 68 = .ok (.return_, 1) := by decide +kernel
theorem dX7_init_0 : decode cX7_init 0 = .ok (.aload_n 0, 1) := by decide +kernel
theorem dX7_init_1 : decode cX7_init 1 = .ok (.invokespecial 3, 3) := by decide +kernel
theorem dX7_init_4 : decode cX7_init 4 = .ok (.aload_n 0, 1) := by decide +kernel
theorem dX7_init_5 : decode cX7_init 5 = .ok (.bipush 8, 2) := by decide +kernel
theorem dX7_init_7 : decode cX7_init 7 = .ok (.newarray .int, 2) := by decide +kernel
theorem dX7_init_9 : decode cX7_init 9 = .ok (.putfield 9, 3) := by decide +kernel
theorem dX7_init_12 : decode cX7_init 12 = .ok (.aload_n 0, 1) := by decide +kernel
theorem dX7_init_13 : decode cX7_init 13 = .ok (.iload_n 1, 1) := by decide +kernel
theorem dX7_init_14 : decode cX7_init 14 = .ok (.putfield 15, 3) := by decide +kernel
theorem dX7_init_17 : decode cX7_init 17 = .ok (.aload_n 0, 1) := by decide +kernel
theorem dX7_init_18 : decode cX7_init 18 = .ok (.iload_n 2, 1) := by decide +kernel
theorem dX7_init_19 : decode cX7_init 19 = .ok (.putfield 19, 3) := by decide +kernel
theorem dX7_init_22 : decode cX7_init 22 = .ok (.aload_n 0, 1) := by decide +kernel
theorem dX7_init_23 : decode cX7_init 23 = .ok (.iload_n 3, 1) := by decide +kernel
theorem dX7_init_24 : decode cX7_init 24 = .ok (.putfield 22, 3) := by decide +kernel
theorem dX7_init_27 : decode cX7_init 27 = .ok (.return_, 1) := by decide +kernel
theorem dX8_init_0 : decode cX8_init 0 = .ok (.aload_n 0, 1) := by decide +kernel
theorem dX8_init_1 : decode cX8_init 1 = .ok (.invokespecial 3, 3) := by decide +kernel
theorem dX8_init_4 : decode cX8_init 4 = .ok (.aload_n 0, 1) := by decide +kernel
theorem dX8_init_5 : decode cX8_init 5 = .ok (.bipush 100, 2) := by decide +kernel
theorem dX8_init_7 : decode cX8_init 7 = .ok (.newarray .int, 2) := by decide +kernel
theorem dX8_init_9 : decode cX8_init 9 = .ok (.putfield 9, 3) := by decide +kernel
theorem dX8_init_12 : decode cX8_init 12 = .ok (.aload_n 0, 1) := by decide +kernel
theorem dX8_init_13 : decode cX8_init 13 = .ok (.bipush 100, 2) := by decide +kernel
theorem dX8_init_15 : decode cX8_init 15 = .ok (.newarray .int, 2) := by decide +kernel
theorem dX8_init_17 : decode cX8_init 17 = .ok (.putfield 15, 3) := by decide +kernel
theorem dX8_init_20 : decode cX8_init 20 = .ok (.aload_n 0, 1) := by decide +kernel
theorem dX8_init_21 : decode cX8_init 21 = .ok (.bipush 100, 2) := by decide +kernel
theorem dX8_init_23 : decode cX8_init 23 = .ok (.newarray .int, 2) := by decide +kernel
theorem dX8_init_25 : decode cX8_init 25 = .ok (.putfield 18, 3) := by decide +kernel
theorem dX8_init_28 : decode cX8_init 28 = .ok (.aload_n 0, 1) := by decide +kernel
theorem dX8_init_29 : decode cX8_init 29 = .ok (.bipush 100, 2) := by decide +kernel
theorem dX8_init_31 : decode cX8_init 31 = .ok (.newarray .int, 2) := by decide +kernel
theorem dX8_init_33 : decode cX8_init 33 = .ok (.putfield 21, 3) := by decide +kernel
theorem dX8_init_36 : decode cX8_init 36 = .ok (.return_, 1) := by decide +kernel
theorem dX8_tell_0 : decode cX8_tell 0 = .ok (.aload_n 0, 1) := by decide +kernel
theorem dX8_tell_1 : decode cX8_tell 1 = .ok (.getfield 24, 3) := by decide +kernel
theorem dX8_tell_4 : decode cX8_tell 4 = .ok (.bipush 100, 2) := by decide +kernel
theorem dX8_tell_6 : decode cX8_tell 6 = .ok (.if_icmp .lt 5, 3) := by decide +kernel
theorem dX8_tell_9 : decode cX8_tell 9 = .ok (.iconst 0, 1) := by decide +kernel
theorem dX8_tell_10 : decode cX8_tell 10 = .ok (.ireturn, 1) := by decide +kernel
theorem dX8_tell_11 : decode cX8_tell 11 = .ok (.aload_n 0, 1) := by decide +kernel
theorem dX8_tell_12 : decode cX8_tell 12 = .ok (.getfield 9, 3) := by decide +kernel
theorem dX8_tell_15 : decode cX8_tell 15 = .ok (.aload_n 0, 1) := by decide +kernel
theorem dX8_tell_16 : decode cX8_tell 16 = .ok (.getfield 24, 3) := by decide +kernel
theorem dX8_tell_19 : decode cX8_tell 19 = .ok (.iload_n 1, 1) := by decide +kernel
theorem dX8_tell_20 : decode cX8_tell 20 = .ok (.iastore, 1) := by decide +kernel
theorem dX8_tell_21 : decode cX8_tell 21 = .ok (.aload_n 0, 1) := by decide +kernel
theorem dX8_tell_22 : decode cX8_tell 22 = .ok (.getfield 15, 3) := by decide +kernel
theorem dX8_tell_25 : decode cX8_tell 25 = .ok (.aload_n 0, 1) := by decide +kernel
theorem dX8_tell_26 : decode cX8_tell 26 = .ok (.getfield 24, 3) := by decide +kernel
theorem dX8_tell_29 : decode cX8_tell 29 = .ok (.iload_n 2, 1) := by decide +kernel
theorem dX8_tell_30 : decode cX8_tell 30 = .ok (.iastore, 1) := by decide +kernel
theorem dX8_tell_31 : decode cX8_tell 31 = .ok (.aload_n 0, 1) := by decide +kernel
theorem dX8_tell_32 : decode cX8_tell 32 = .ok (.getfield 18, 3) := by decide +kernel
theorem dX8_tell_35 : decode cX8_tell 35 = .ok (.aload_n 0, 1) := by decide +kernel
theorem dX8_tell_36 : decode cX8_tell 36 = .ok (.getfield 24, 3) := by decide +kernel
theorem dX8_tell_39 : decode cX8_tell 39 = .ok (.iload_n 3, 1) := by decide +kernel
theorem dX8_tell_40 : decode cX8_tell 40 = .ok (.iastore, 1) := by decide +kernel
theorem dX8_tell_41 : decode cX8_tell 41 = .ok (.aload_n 0, 1) := by decide +kernel
theorem dX8_tell_42 : decode cX8_tell 42 = .ok (.getfield 21, 3) := by decide +kernel
theorem dX8_tell_45 : decode cX8_tell 45 = .ok (.aload_n 0, 1) := by decide +kernel
theorem dX8_tell_46 : decode cX8_tell 46 = .ok (.getfield 24, 3) := by decide +kernel
theorem dX8_tell_49 : decode cX8_tell 49 = .ok (.iload 4, 2) := by decide +kernel
theorem dX8_tell_51 : decode cX8_tell 51 = .ok (.iastore, 1) := by decide +kernel
theorem dX8_tell_52 : decode cX8_tell 52 = .ok (.aload_n 0, 1) := by decide +kernel
theorem dX8_tell_53 : decode cX8_tell 53 = .ok (.dup, 1) := by decide +kernel
theorem dX8_tell_54 : decode cX8_tell 54 = .ok (.getfield 24, 3) := by decide +kernel
theorem dX8_tell_57 : decode cX8_tell 57 = .ok (.iconst 1, 1) := by decide +kernel
theorem dX8_tell_58 : decode cX8_tell 58 = .ok (.iadd, 1) := by decide +kernel
theorem dX8_tell_59 : decode cX8_tell 59 = .ok (.putfield 24, 3) := by decide +kernel
theorem dX8_tell_62 : decode cX8_tell 62 = .ok (.iconst 1, 1) := by decide +kernel
theorem dX8_tell_63 : decode cX8_tell 63 = .ok (.ireturn, 1) := by decide +kernel
theorem dX8_inForce_0 : decode cX8_inForce 0 = .ok (.iconst (-1), 1) := by decide +kernel
theorem dX8_inForce_1 : decode cX8_inForce 1 = .ok (.istore 4, 2) := by decide +kernel
theorem dX8_inForce_3 : decode cX8_inForce 3 = .ok (.iconst 0, 1) := by decide +kernel
theorem dX8_inForce_4 : decode cX8_inForce 4 = .ok (.istore 5, 2) := by decide +kernel
theorem dX8_inForce_6 : decode cX8_inForce 6 = .ok (.iconst 0, 1) := by decide +kernel
theorem dX8_inForce_7 : decode cX8_inForce 7 = .ok (.istore 6, 2) := by decide +kernel
theorem dX8_inForce_9 : decode cX8_inForce 9 = .ok (.iload 6, 2) := by decide +kernel
theorem dX8_inForce_11 : decode cX8_inForce 11 = .ok (.aload_n 0, 1) := by decide +kernel
theorem dX8_inForce_12 : decode cX8_inForce 12 = .ok (.getfield 24, 3) := by decide +kernel
theorem dX8_inForce_15 : decode cX8_inForce 15 = .ok (.if_icmp .ge 91, 3) := by decide +kernel
theorem dX8_inForce_18 : decode cX8_inForce 18 = .ok (.iload 6, 2) := by decide +kernel
theorem dX8_inForce_20 : decode cX8_inForce 20 = .ok (.bipush 100, 2) := by decide +kernel
theorem dX8_inForce_22 : decode cX8_inForce 22 = .ok (.if_icmp .ge 84, 3) := by decide +kernel
theorem dX8_inForce_25 : decode cX8_inForce 25 = .ok (.aload_n 0, 1) := by decide +kernel
theorem dX8_inForce_26 : decode cX8_inForce 26 = .ok (.getfield 9, 3) := by decide +kernel
theorem dX8_inForce_29 : decode cX8_inForce 29 = .ok (.iload 6, 2) := by decide +kernel
theorem dX8_inForce_31 : decode cX8_inForce 31 = .ok (.iaload, 1) := by decide +kernel
theorem dX8_inForce_32 : decode cX8_inForce 32 = .ok (.iload_n 1, 1) := by decide +kernel
theorem dX8_inForce_33 : decode cX8_inForce 33 = .ok (.if_icmp .ne 18, 3) := by decide +kernel
theorem dX8_inForce_36 : decode cX8_inForce 36 = .ok (.aload_n 0, 1) := by decide +kernel
theorem dX8_inForce_37 : decode cX8_inForce 37 = .ok (.getfield 15, 3) := by decide +kernel
theorem dX8_inForce_40 : decode cX8_inForce 40 = .ok (.iload 6, 2) := by decide +kernel
theorem dX8_inForce_42 : decode cX8_inForce 42 = .ok (.iaload, 1) := by decide +kernel
theorem dX8_inForce_43 : decode cX8_inForce 43 = .ok (.iload_n 2, 1) := by decide +kernel
theorem dX8_inForce_44 : decode cX8_inForce 44 = .ok (.if_icmp .ne 7, 3) := by decide +kernel
theorem dX8_inForce_47 : decode cX8_inForce 47 = .ok (.iconst 1, 1) := by decide +kernel
theorem dX8_inForce_48 : decode cX8_inForce 48 = .ok (.goto 4, 3) := by decide +kernel
theorem dX8_inForce_51 : decode cX8_inForce 51 = .ok (.iconst 0, 1) := by decide +kernel
theorem dX8_inForce_52 : decode cX8_inForce 52 = .ok (.istore 7, 2) := by decide +kernel
theorem dX8_inForce_54 : decode cX8_inForce 54 = .ok (.iload 7, 2) := by decide +kernel
theorem dX8_inForce_56 : decode cX8_inForce 56 = .ok (.ifCond .eq 44, 3) := by decide +kernel
theorem dX8_inForce_59 : decode cX8_inForce 59 = .ok (.aload_n 0, 1) := by decide +kernel
theorem dX8_inForce_60 : decode cX8_inForce 60 = .ok (.getfield 21, 3) := by decide +kernel
theorem dX8_inForce_63 : decode cX8_inForce 63 = .ok (.iload 6, 2) := by decide +kernel
theorem dX8_inForce_65 : decode cX8_inForce 65 = .ok (.iaload, 1) := by decide +kernel
theorem dX8_inForce_66 : decode cX8_inForce 66 = .ok (.iload_n 3, 1) := by decide +kernel
theorem dX8_inForce_67 : decode cX8_inForce 67 = .ok (.if_icmp .gt 33, 3) := by decide +kernel
theorem dX8_inForce_70 : decode cX8_inForce 70 = .ok (.aload_n 0, 1) := by decide +kernel
theorem dX8_inForce_71 : decode cX8_inForce 71 = .ok (.getfield 21, 3) := by decide +kernel
theorem dX8_inForce_74 : decode cX8_inForce 74 = .ok (.iload 6, 2) := by decide +kernel
theorem dX8_inForce_76 : decode cX8_inForce 76 = .ok (.iaload, 1) := by decide +kernel
theorem dX8_inForce_77 : decode cX8_inForce 77 = .ok (.iload 4, 2) := by decide +kernel
theorem dX8_inForce_79 : decode cX8_inForce 79 = .ok (.if_icmp .lt 21, 3) := by decide +kernel
theorem dX8_inForce_82 : decode cX8_inForce 82 = .ok (.aload_n 0, 1) := by decide +kernel
theorem dX8_inForce_83 : decode cX8_inForce 83 = .ok (.getfield 21, 3) := by decide +kernel
theorem dX8_inForce_86 : decode cX8_inForce 86 = .ok (.iload 6, 2) := by decide +kernel
theorem dX8_inForce_88 : decode cX8_inForce 88 = .ok (.iaload, 1) := by decide +kernel
theorem dX8_inForce_89 : decode cX8_inForce 89 = .ok (.istore 4, 2) := by decide +kernel
theorem dX8_inForce_91 : decode cX8_inForce 91 = .ok (.aload_n 0, 1) := by decide +kernel
theorem dX8_inForce_92 : decode cX8_inForce 92 = .ok (.getfield 18, 3) := by decide +kernel
theorem dX8_inForce_95 : decode cX8_inForce 95 = .ok (.iload 6, 2) := by decide +kernel
theorem dX8_inForce_97 : decode cX8_inForce 97 = .ok (.iaload, 1) := by decide +kernel
theorem dX8_inForce_98 : decode cX8_inForce 98 = .ok (.istore 5, 2) := by decide +kernel
theorem dX8_inForce_100 : decode cX8_inForce 100 = .ok (.iinc 6 1, 3) := by decide +kernel
theorem dX8_inForce_103 : decode cX8_inForce 103 = .ok (.goto (-94), 3) := by decide +kernel
theorem dX8_inForce_106 : decode cX8_inForce 106 = .ok (.iload 5, 2) := by decide +kernel
theorem dX8_inForce_108 : decode cX8_inForce 108 = .ok (.ireturn, 1) := by decide +kernel
theorem dX8_claimOf_0 : decode cX8_claimOf 0 = .ok (.iconst 0, 1) := by decide +kernel
theorem dX8_claimOf_1 : decode cX8_claimOf 1 = .ok (.istore 4, 2) := by decide +kernel
theorem dX8_claimOf_3 : decode cX8_claimOf 3 = .ok (.iconst 0, 1) := by decide +kernel
theorem dX8_claimOf_4 : decode cX8_claimOf 4 = .ok (.istore 5, 2) := by decide +kernel
theorem dX8_claimOf_6 : decode cX8_claimOf 6 = .ok (.iload 5, 2) := by decide +kernel
theorem dX8_claimOf_8 : decode cX8_claimOf 8 = .ok (.bipush 12, 2) := by decide +kernel
theorem dX8_claimOf_10 : decode cX8_claimOf 10 = .ok (.if_icmp .ge 40, 3) := by decide +kernel
theorem dX8_claimOf_13 : decode cX8_claimOf 13 = .ok (.aload_n 2, 1) := by decide +kernel
theorem dX8_claimOf_14 : decode cX8_claimOf 14 = .ok (.getfield 28, 3) := by decide +kernel
theorem dX8_claimOf_17 : decode cX8_claimOf 17 = .ok (.iload 5, 2) := by decide +kernel
theorem dX8_claimOf_19 : decode cX8_claimOf 19 = .ok (.iaload, 1) := by decide +kernel
theorem dX8_claimOf_20 : decode cX8_claimOf 20 = .ok (.ifCond .eq 24, 3) := by decide +kernel
theorem dX8_claimOf_23 : decode cX8_claimOf 23 = .ok (.iload 4, 2) := by decide +kernel
theorem dX8_claimOf_25 : decode cX8_claimOf 25 = .ok (.aload_n 2, 1) := by decide +kernel
theorem dX8_claimOf_26 : decode cX8_claimOf 26 = .ok (.getfield 28, 3) := by decide +kernel
theorem dX8_claimOf_29 : decode cX8_claimOf 29 = .ok (.iload 5, 2) := by decide +kernel
theorem dX8_claimOf_31 : decode cX8_claimOf 31 = .ok (.iaload, 1) := by decide +kernel
theorem dX8_claimOf_32 : decode cX8_claimOf 32 = .ok (.aload_n 0, 1) := by decide +kernel
theorem dX8_claimOf_33 : decode cX8_claimOf 33 = .ok (.iload 5, 2) := by decide +kernel
theorem dX8_claimOf_35 : decode cX8_claimOf 35 = .ok (.iload_n 1, 1) := by decide +kernel
theorem dX8_claimOf_36 : decode cX8_claimOf 36 = .ok (.iload_n 3, 1) := by decide +kernel
theorem dX8_claimOf_37 : decode cX8_claimOf 37 = .ok (.invokevirtual 33, 3) := by decide +kernel
theorem dX8_claimOf_40 : decode cX8_claimOf 40 = .ok (.imul, 1) := by decide +kernel
theorem dX8_claimOf_41 : decode cX8_claimOf 41 = .ok (.iadd, 1) := by decide +kernel
theorem dX8_claimOf_42 : decode cX8_claimOf 42 = .ok (.istore 4, 2) := by decide +kernel
theorem dX8_claimOf_44 : decode cX8_claimOf 44 = .ok (.iinc 5 1, 3) := by decide +kernel
theorem dX8_claimOf_47 : decode cX8_claimOf 47 = .ok (.goto (-41), 3) := by decide +kernel
theorem dX8_claimOf_50 : decode cX8_claimOf 50 = .ok (.iload 4, 2) := by decide +kernel
theorem dX8_claimOf_52 : decode cX8_claimOf 52 = .ok (.ireturn, 1) := by decide +kernel
theorem dX9_init_0 : decode cX9_init 0 = .ok (.aload_n 0, 1) := by decide +kernel
theorem dX9_init_1 : decode cX9_init 1 = .ok (.invokespecial 3, 3) := by decide +kernel
theorem dX9_init_4 : decode cX9_init 4 = .ok (.aload_n 0, 1) := by decide +kernel
theorem dX9_init_5 : decode cX9_init 5 = .ok (.sipush 200, 3) := by decide +kernel
theorem dX9_init_8 : decode cX9_init 8 = .ok (.newarray .int, 2) := by decide +kernel
theorem dX9_init_10 : decode cX9_init 10 = .ok (.putfield 9, 3) := by decide +kernel
theorem dX9_init_13 : decode cX9_init 13 = .ok (.return_, 1) := by decide +kernel
theorem dX9_bytesIn_0 : decode cX9_bytesIn 0 = .ok (.iconst 0, 1) := by decide +kernel
theorem dX9_bytesIn_1 : decode cX9_bytesIn 1 = .ok (.istore_n 1, 1) := by decide +kernel
theorem dX9_bytesIn_2 : decode cX9_bytesIn 2 = .ok (.bipush 24, 2) := by decide +kernel
theorem dX9_bytesIn_4 : decode cX9_bytesIn 4 = .ok (.istore_n 2, 1) := by decide +kernel
theorem dX9_bytesIn_5 : decode cX9_bytesIn 5 = .ok (.iload_n 2, 1) := by decide +kernel
theorem dX9_bytesIn_6 : decode cX9_bytesIn 6 = .ok (.ifCond .lt 22, 3) := by decide +kernel
theorem dX9_bytesIn_9 : decode cX9_bytesIn 9 = .ok (.iload_n 0, 1) := by decide +kernel
theorem dX9_bytesIn_10 : decode cX9_bytesIn 10 = .ok (.iload_n 2, 1) := by decide +kernel
theorem dX9_bytesIn_11 : decode cX9_bytesIn 11 = .ok (.iushr, 1) := by decide +kernel
theorem dX9_bytesIn_12 : decode cX9_bytesIn 12 = .ok (.sipush 255, 3) := by decide +kernel
theorem dX9_bytesIn_15 : decode cX9_bytesIn 15 = .ok (.iand, 1) := by decide +kernel
theorem dX9_bytesIn_16 : decode cX9_bytesIn 16 = .ok (.ifCond .eq 6, 3) := by decide +kernel
theorem dX9_bytesIn_19 : decode cX9_bytesIn 19 = .ok (.iinc 1 1, 3) := by decide +kernel
theorem dX9_bytesIn_22 : decode cX9_bytesIn 22 = .ok (.iinc 2 (-8), 3) := by decide +kernel
theorem dX9_bytesIn_25 : decode cX9_bytesIn 25 = .ok (.goto (-20), 3) := by decide +kernel
theorem dX9_bytesIn_28 : decode cX9_bytesIn 28 = .ok (.iload_n 1, 1) := by decide +kernel
theorem dX9_bytesIn_29 : decode cX9_bytesIn 29 = .ok (.ireturn, 1) := by decide +kernel
theorem dX9_append_0 : decode cX9_append 0 = .ok (.bipush 24, 2) := by decide +kernel
theorem dX9_append_2 : decode cX9_append 2 = .ok (.istore_n 2, 1) := by decide +kernel
theorem dX9_append_3 : decode cX9_append 3 = .ok (.iload_n 2, 1) := by decide +kernel
theorem dX9_append_4 : decode cX9_append 4 = .ok (.ifCond .lt 53, 3) := by decide +kernel
theorem dX9_append_7 : decode cX9_append 7 = .ok (.iload_n 1, 1) := by decide +kernel
theorem dX9_append_8 : decode cX9_append 8 = .ok (.iload_n 2, 1) := by decide +kernel
theorem dX9_append_9 : decode cX9_append 9 = .ok (.iushr, 1) := by decide +kernel
theorem dX9_append_10 : decode cX9_append 10 = .ok (.sipush 255, 3) := by decide +kernel
theorem dX9_append_13 : decode cX9_append 13 = .ok (.iand, 1) := by decide +kernel
theorem dX9_append_14 : decode cX9_append 14 = .ok (.istore_n 3, 1) := by decide +kernel
theorem dX9_append_15 : decode cX9_append 15 = .ok (.iload_n 3, 1) := by decide +kernel
theorem dX9_append_16 : decode cX9_append 16 = .ok (.ifCond .eq 35, 3) := by decide +kernel
theorem dX9_append_19 : decode cX9_append 19 = .ok (.aload_n 0, 1) := by decide +kernel
theorem dX9_append_20 : decode cX9_append 20 = .ok (.getfield 15, 3) := by decide +kernel
theorem dX9_append_23 : decode cX9_append 23 = .ok (.aload_n 0, 1) := by decide +kernel
theorem dX9_append_24 : decode cX9_append 24 = .ok (.getfield 9, 3) := by decide +kernel
theorem dX9_append_27 : decode cX9_append 27 = .ok (.arraylength, 1) := by decide +kernel
theorem dX9_append_28 : decode cX9_append 28 = .ok (.if_icmp .ge 23, 3) := by decide +kernel
theorem dX9_append_31 : decode cX9_append 31 = .ok (.aload_n 0, 1) := by decide +kernel
theorem dX9_append_32 : decode cX9_append 32 = .ok (.getfield 9, 3) := by decide +kernel
theorem dX9_append_35 : decode cX9_append 35 = .ok (.aload_n 0, 1) := by decide +kernel
theorem dX9_append_36 : decode cX9_append 36 = .ok (.getfield 15, 3) := by decide +kernel
theorem dX9_append_39 : decode cX9_append 39 = .ok (.iload_n 3, 1) := by decide +kernel
theorem dX9_append_40 : decode cX9_append 40 = .ok (.iastore, 1) := by decide +kernel
theorem dX9_append_41 : decode cX9_append 41 = .ok (.aload_n 0, 1) := by decide +kernel
theorem dX9_append_42 : decode cX9_append 42 = .ok (.dup, 1) := by decide +kernel
theorem dX9_append_43 : decode cX9_append 43 = .ok (.getfield 15, 3) := by decide +kernel
theorem dX9_append_46 : decode cX9_append 46 = .ok (.iconst 1, 1) := by decide +kernel
theorem dX9_append_47 : decode cX9_append 47 = .ok (.iadd, 1) := by decide +kernel
theorem dX9_append_48 : decode cX9_append 48 = .ok (.putfield 15, 3) := by decide +kernel
theorem dX9_append_51 : decode cX9_append 51 = .ok (.iinc 2 (-8), 3) := by decide +kernel
theorem dX9_append_54 : decode cX9_append 54 = .ok (.goto (-51), 3) := by decide +kernel
theorem dX9_append_57 : decode cX9_append 57 = .ok (.return_, 1) := by decide +kernel
theorem dX9_byteAt_0 : decode cX9_byteAt 0 = .ok (.aload_n 0, 1) := by decide +kernel
theorem dX9_byteAt_1 : decode cX9_byteAt 1 = .ok (.getfield 9, 3) := by decide +kernel
theorem dX9_byteAt_4 : decode cX9_byteAt 4 = .ok (.iload_n 1, 1) := by decide +kernel
theorem dX9_byteAt_5 : decode cX9_byteAt 5 = .ok (.invokestatic 19, 3) := by decide +kernel
theorem dX9_byteAt_8 : decode cX9_byteAt 8 = .ok (.ireturn, 1) := by decide +kernel
theorem dX9_firstFault_0 : decode cX9_firstFault 0 = .ok (.iconst 0, 1) := by decide +kernel
theorem dX9_firstFault_1 : decode cX9_firstFault 1 = .ok (.istore_n 1, 1) := by decide +kernel
theorem dX9_firstFault_2 : decode cX9_firstFault 2 = .ok (.iconst 0, 1) := by decide +kernel
theorem dX9_firstFault_3 : decode cX9_firstFault 3 = .ok (.istore_n 2, 1) := by decide +kernel
theorem dX9_firstFault_4 : decode cX9_firstFault 4 = .ok (.iload_n 2, 1) := by decide +kernel
theorem dX9_firstFault_5 : decode cX9_firstFault 5 = .ok (.aload_n 0, 1) := by decide +kernel
theorem dX9_firstFault_6 : decode cX9_firstFault 6 = .ok (.getfield 15, 3) := by decide +kernel
theorem dX9_firstFault_9 : decode cX9_firstFault 9 = .ok (.if_icmp .ge 27, 3) := by decide +kernel
theorem dX9_firstFault_12 : decode cX9_firstFault 12 = .ok (.iload_n 1, 1) := by decide +kernel
theorem dX9_firstFault_13 : decode cX9_firstFault 13 = .ok (.aload_n 0, 1) := by decide +kernel
theorem dX9_firstFault_14 : decode cX9_firstFault 14 = .ok (.iload_n 2, 1) := by decide +kernel
theorem dX9_firstFault_15 : decode cX9_firstFault 15 = .ok (.invokevirtual 23, 3) := by decide +kernel
theorem dX9_firstFault_18 : decode cX9_firstFault 18 = .ok (.invokestatic 27, 3) := by decide +kernel
theorem dX9_firstFault_21 : decode cX9_firstFault 21 = .ok (.istore_n 1, 1) := by decide +kernel
theorem dX9_firstFault_22 : decode cX9_firstFault 22 = .ok (.iload_n 1, 1) := by decide +kernel
theorem dX9_firstFault_23 : decode cX9_firstFault 23 = .ok (.bipush 12, 2) := by decide +kernel
theorem dX9_firstFault_25 : decode cX9_firstFault 25 = .ok (.if_icmp .ne 5, 3) := by decide +kernel
theorem dX9_firstFault_28 : decode cX9_firstFault 28 = .ok (.iload_n 2, 1) := by decide +kernel
theorem dX9_firstFault_29 : decode cX9_firstFault 29 = .ok (.ireturn, 1) := by decide +kernel
theorem dX9_firstFault_30 : decode cX9_firstFault 30 = .ok (.iinc 2 1, 3) := by decide +kernel
theorem dX9_firstFault_33 : decode cX9_firstFault 33 = .ok (.goto (-29), 3) := by decide +kernel
theorem dX9_firstFault_36 : decode cX9_firstFault 36 = .ok (.iload_n 1, 1) := by decide +kernel
theorem dX9_firstFault_37 : decode cX9_firstFault 37 = .ok (.ifCond .eq 9, 3) := by decide +kernel
theorem dX9_firstFault_40 : decode cX9_firstFault 40 = .ok (.iload_n 1, 1) := by decide +kernel
theorem dX9_firstFault_41 : decode cX9_firstFault 41 = .ok (.bipush 10, 2) := by decide +kernel
theorem dX9_firstFault_43 : decode cX9_firstFault 43 = .ok (.if_icmp .ne 7, 3) := by decide +kernel
theorem dX9_firstFault_46 : decode cX9_firstFault 46 = .ok (.iconst (-1), 1) := by decide +kernel
theorem dX9_firstFault_47 : decode cX9_firstFault 47 = .ok (.goto 7, 3) := by decide +kernel
theorem dX9_firstFault_50 : decode cX9_firstFault 50 = .ok (.aload_n 0, 1) := by decide +kernel
theorem dX9_firstFault_51 : decode cX9_firstFault 51 = .ok (.getfield 15, 3) := by decide +kernel
theorem dX9_firstFault_54 : decode cX9_firstFault 54 = .ok (.ireturn, 1) := by decide +kernel
theorem dX9_after_0 : decode cX9_after 0 = .ok (.iload_n 1, 1) := by decide +kernel
theorem dX9_after_1 : decode cX9_after 1 = .ok (.bipush 32, 2) := by decide +kernel
theorem dX9_after_3 : decode cX9_after 3 = .ok (.if_icmp .ne 21, 3) := by decide +kernel
theorem dX9_after_6 : decode cX9_after 6 = .ok (.iload_n 0, 1) := by decide +kernel
theorem dX9_after_7 : decode cX9_after 7 = .ok (.iconst 2, 1) := by decide +kernel
theorem dX9_after_8 : decode cX9_after 8 = .ok (.if_icmp .le 14, 3) := by decide +kernel
theorem dX9_after_11 : decode cX9_after 11 = .ok (.iload_n 0, 1) := by decide +kernel
theorem dX9_after_12 : decode cX9_after 12 = .ok (.bipush 7, 2) := by decide +kernel
theorem dX9_after_14 : decode cX9_after 14 = .ok (.if_icmp .gt 8, 3) := by decide +kernel
theorem dX9_after_17 : decode cX9_after 17 = .ok (.bipush 8, 2) := by decide +kernel
theorem dX9_after_19 : decode cX9_after 19 = .ok (.goto 4, 3) := by decide +kernel
theorem dX9_after_22 : decode cX9_after 22 = .ok (.iload_n 0, 1) := by decide +kernel
theorem dX9_after_23 : decode cX9_after 23 = .ok (.ireturn, 1) := by decide +kernel
theorem dX9_after_24 : decode cX9_after 24 = .ok (.iload_n 0, 1) := by decide +kernel
theorem dX9_after_25 : decode cX9_after 25 = .ok (.tableswitch 148 0 11 #[63, 77, 91, 148, 148, 148, 148, 105, 105, 119, 134, 63], 63) := by decide +kernel
theorem dX9_after_88 : decode cX9_after 88 = .ok (.iload_n 1, 1) := by decide +kernel
theorem dX9_after_89 : decode cX9_after 89 = .ok (.invokestatic 31, 3) := by decide +kernel
theorem dX9_after_92 : decode cX9_after 92 = .ok (.ifCond .eq 7, 3) := by decide +kernel
theorem dX9_after_95 : decode cX9_after 95 = .ok (.iconst 1, 1) := by decide +kernel
theorem dX9_after_96 : decode cX9_after 96 = .ok (.goto 5, 3) := by decide +kernel
theorem dX9_after_99 : decode cX9_after 99 = .ok (.bipush 12, 2) := by decide +kernel
theorem dX9_after_101 : decode cX9_after 101 = .ok (.ireturn, 1) := by decide +kernel
theorem dX9_after_102 : decode cX9_after 102 = .ok (.iload_n 1, 1) := by decide +kernel
theorem dX9_after_103 : decode cX9_after 103 = .ok (.invokestatic 35, 3) := by decide +kernel
theorem dX9_after_106 : decode cX9_after 106 = .ok (.ifCond .eq 7, 3) := by decide +kernel
theorem dX9_after_109 : decode cX9_after 109 = .ok (.iconst 2, 1) := by decide +kernel
theorem dX9_after_110 : decode cX9_after 110 = .ok (.goto 5, 3) := by decide +kernel
theorem dX9_after_113 : decode cX9_after 113 = .ok (.bipush 12, 2) := by decide +kernel
theorem dX9_after_115 : decode cX9_after 115 = .ok (.ireturn, 1) := by decide +kernel
theorem dX9_after_116 : decode cX9_after 116 = .ok (.iload_n 1, 1) := by decide +kernel
theorem dX9_after_117 : decode cX9_after 117 = .ok (.invokestatic 38, 3) := by decide +kernel
theorem dX9_after_120 : decode cX9_after 120 = .ok (.ifCond .eq 7, 3) := by decide +kernel
theorem dX9_after_123 : decode cX9_after 123 = .ok (.iconst 3, 1) := by decide +kernel
theorem dX9_after_124 : decode cX9_after 124 = .ok (.goto 5, 3) := by decide +kernel
theorem dX9_after_127 : decode cX9_after 127 = .ok (.bipush 12, 2) := by decide +kernel
theorem dX9_after_129 : decode cX9_after 129 = .ok (.ireturn, 1) := by decide +kernel
theorem dX9_after_130 : decode cX9_after 130 = .ok (.iload_n 1, 1) := by decide +kernel
theorem dX9_after_131 : decode cX9_after 131 = .ok (.bipush 58, 2) := by decide +kernel
theorem dX9_after_133 : decode cX9_after 133 = .ok (.if_icmp .ne 8, 3) := by decide +kernel
theorem dX9_after_136 : decode cX9_after 136 = .ok (.bipush 9, 2) := by decide +kernel
theorem dX9_after_138 : decode cX9_after 138 = .ok (.goto 5, 3) := by decide +kernel
theorem dX9_after_141 : decode cX9_after 141 = .ok (.bipush 12, 2) := by decide +kernel
theorem dX9_after_143 : decode cX9_after 143 = .ok (.ireturn, 1) := by decide +kernel
theorem dX9_after_144 : decode cX9_after 144 = .ok (.iload_n 1, 1) := by decide +kernel
theorem dX9_after_145 : decode cX9_after 145 = .ok (.invokestatic 38, 3) := by decide +kernel
theorem dX9_after_148 : decode cX9_after 148 = .ok (.ifCond .eq 8, 3) := by decide +kernel
theorem dX9_after_151 : decode cX9_after 151 = .ok (.bipush 10, 2) := by decide +kernel
theorem dX9_after_153 : decode cX9_after 153 = .ok (.goto 5, 3) := by decide +kernel
theorem dX9_after_156 : decode cX9_after 156 = .ok (.bipush 12, 2) := by decide +kernel
theorem dX9_after_158 : decode cX9_after 158 = .ok (.ireturn, 1) := by decide +kernel
theorem dX9_after_159 : decode cX9_after 159 = .ok (.iload_n 1, 1) := by decide +kernel
theorem dX9_after_160 : decode cX9_after 160 = .ok (.bipush 59, 2) := by decide +kernel
theorem dX9_after_162 : decode cX9_after 162 = .ok (.if_icmp .ne 8, 3) := by decide +kernel
theorem dX9_after_165 : decode cX9_after 165 = .ok (.bipush 11, 2) := by decide +kernel
theorem dX9_after_167 : decode cX9_after 167 = .ok (.goto 5, 3) := by decide +kernel
theorem dX9_after_170 : decode cX9_after 170 = .ok (.bipush 12, 2) := by decide +kernel
theorem dX9_after_172 : decode cX9_after 172 = .ok (.ireturn, 1) := by decide +kernel
theorem dX9_after_173 : decode cX9_after 173 = .ok (.iload_n 0, 1) := by decide +kernel
theorem dX9_after_174 : decode cX9_after 174 = .ok (.iload_n 1, 1) := by decide +kernel
theorem dX9_after_175 : decode cX9_after 175 = .ok (.invokestatic 41, 3) := by decide +kernel
theorem dX9_after_178 : decode cX9_after 178 = .ok (.ireturn, 1) := by decide +kernel
theorem dX9_afterDigit_0 : decode cX9_afterDigit 0 = .ok (.iload_n 1, 1) := by decide +kernel
theorem dX9_afterDigit_1 : decode cX9_afterDigit 1 = .ok (.bipush 58, 2) := by decide +kernel
theorem dX9_afterDigit_3 : decode cX9_afterDigit 3 = .ok (.if_icmp .ne 6, 3) := by decide +kernel
theorem dX9_afterDigit_6 : decode cX9_afterDigit 6 = .ok (.bipush 9, 2) := by decide +kernel
theorem dX9_afterDigit_8 : decode cX9_afterDigit 8 = .ok (.ireturn, 1) := by decide +kernel
theorem dX9_afterDigit_9 : decode cX9_afterDigit 9 = .ok (.iload_n 1, 1) := by decide +kernel
theorem dX9_afterDigit_10 : decode cX9_afterDigit 10 = .ok (.invokestatic 38, 3) := by decide +kernel
theorem dX9_afterDigit_13 : decode cX9_afterDigit 13 = .ok (.ifCond .eq 9, 3) := by decide +kernel
theorem dX9_afterDigit_16 : decode cX9_afterDigit 16 = .ok (.iload_n 0, 1) := by decide +kernel
theorem dX9_afterDigit_17 : decode cX9_afterDigit 17 = .ok (.iconst 1, 1) := by decide +kernel
theorem dX9_afterDigit_18 : decode cX9_afterDigit 18 = .ok (.iadd, 1) := by decide +kernel
theorem dX9_afterDigit_19 : decode cX9_afterDigit 19 = .ok (.goto 5, 3) := by decide +kernel
theorem dX9_afterDigit_22 : decode cX9_afterDigit 22 = .ok (.bipush 12, 2) := by decide +kernel
theorem dX9_afterDigit_24 : decode cX9_afterDigit 24 = .ok (.ireturn, 1) := by decide +kernel
theorem dX9_isLetter_0 : decode cX9_isLetter 0 = .ok (.iload_n 0, 1) := by decide +kernel
theorem dX9_isLetter_1 : decode cX9_isLetter 1 = .ok (.bipush 104, 2) := by decide +kernel
theorem dX9_isLetter_3 : decode cX9_isLetter 3 = .ok (.if_icmp .eq 21, 3) := by decide +kernel
theorem dX9_isLetter_6 : decode cX9_isLetter 6 = .ok (.iload_n 0, 1) := by decide +kernel
theorem dX9_isLetter_7 : decode cX9_isLetter 7 = .ok (.bipush 109, 2) := by decide +kernel
theorem dX9_isLetter_9 : decode cX9_isLetter 9 = .ok (.if_icmp .eq 15, 3) := by decide +kernel
theorem dX9_isLetter_12 : decode cX9_isLetter 12 = .ok (.iload_n 0, 1) := by decide +kernel
theorem dX9_isLetter_13 : decode cX9_isLetter 13 = .ok (.bipush 99, 2) := by decide +kernel
theorem dX9_isLetter_15 : decode cX9_isLetter 15 = .ok (.if_icmp .eq 9, 3) := by decide +kernel
theorem dX9_isLetter_18 : decode cX9_isLetter 18 = .ok (.iload_n 0, 1) := by decide +kernel
theorem dX9_isLetter_19 : decode cX9_isLetter 19 = .ok (.bipush 111, 2) := by decide +kernel
theorem dX9_isLetter_21 : decode cX9_isLetter 21 = .ok (.if_icmp .ne 7, 3) := by decide +kernel
theorem dX9_isLetter_24 : decode cX9_isLetter 24 = .ok (.iconst 1, 1) := by decide +kernel
theorem dX9_isLetter_25 : decode cX9_isLetter 25 = .ok (.goto 4, 3) := by decide +kernel
theorem dX9_isLetter_28 : decode cX9_isLetter 28 = .ok (.iconst 0, 1) := by decide +kernel
theorem dX9_isLetter_29 : decode cX9_isLetter 29 = .ok (.ireturn, 1) := by decide +kernel
theorem dX9_isSign_0 : decode cX9_isSign 0 = .ok (.iload_n 0, 1) := by decide +kernel
theorem dX9_isSign_1 : decode cX9_isSign 1 = .ok (.bipush 61, 2) := by decide +kernel
theorem dX9_isSign_3 : decode cX9_isSign 3 = .ok (.if_icmp .eq 15, 3) := by decide +kernel
theorem dX9_isSign_6 : decode cX9_isSign 6 = .ok (.iload_n 0, 1) := by decide +kernel
theorem dX9_isSign_7 : decode cX9_isSign 7 = .ok (.bipush 60, 2) := by decide +kernel
theorem dX9_isSign_9 : decode cX9_isSign 9 = .ok (.if_icmp .eq 9, 3) := by decide +kernel
theorem dX9_isSign_12 : decode cX9_isSign 12 = .ok (.iload_n 0, 1) := by decide +kernel
theorem dX9_isSign_13 : decode cX9_isSign 13 = .ok (.bipush 62, 2) := by decide +kernel
theorem dX9_isSign_15 : decode cX9_isSign 15 = .ok (.if_icmp .ne 7, 3) := by decide +kernel
theorem dX9_isSign_18 : decode cX9_isSign 18 = .ok (.iconst 1, 1) := by decide +kernel
theorem dX9_isSign_19 : decode cX9_isSign 19 = .ok (.goto 4, 3) := by decide +kernel
theorem dX9_isSign_22 : decode cX9_isSign 22 = .ok (.iconst 0, 1) := by decide +kernel
theorem dX9_isSign_23 : decode cX9_isSign 23 = .ok (.ireturn, 1) := by decide +kernel
theorem dX9_isDigit_0 : decode cX9_isDigit 0 = .ok (.iload_n 0, 1) := by decide +kernel
theorem dX9_isDigit_1 : decode cX9_isDigit 1 = .ok (.bipush 48, 2) := by decide +kernel
theorem dX9_isDigit_3 : decode cX9_isDigit 3 = .ok (.if_icmp .lt 13, 3) := by decide +kernel
theorem dX9_isDigit_6 : decode cX9_isDigit 6 = .ok (.iload_n 0, 1) := by decide +kernel
theorem dX9_isDigit_7 : decode cX9_isDigit 7 = .ok (.bipush 57, 2) := by decide +kernel
theorem dX9_isDigit_9 : decode cX9_isDigit 9 = .ok (.if_icmp .gt 7, 3) := by decide +kernel
theorem dX9_isDigit_12 : decode cX9_isDigit 12 = .ok (.iconst 1, 1) := by decide +kernel
theorem dX9_isDigit_13 : decode cX9_isDigit 13 = .ok (.goto 4, 3) := by decide +kernel
theorem dX9_isDigit_16 : decode cX9_isDigit 16 = .ok (.iconst 0, 1) := by decide +kernel
theorem dX9_isDigit_17 : decode cX9_isDigit 17 = .ok (.ireturn, 1) := by decide +kernel
theorem dX10_init_0 : decode cX10_init 0 = .ok (.aload_n 0, 1) := by decide +kernel
theorem dX10_init_1 : decode cX10_init 1 = .ok (.invokespecial 3, 3) := by decide +kernel
theorem dX10_init_4 : decode cX10_init 4 = .ok (.aload_n 0, 1) := by decide +kernel
theorem dX10_init_5 : decode cX10_init 5 = .ok (.bipush 12, 2) := by decide +kernel
theorem dX10_init_7 : decode cX10_init 7 = .ok (.newarray .int, 2) := by decide +kernel
theorem dX10_init_9 : decode cX10_init 9 = .ok (.putfield 9, 3) := by decide +kernel
theorem dX10_init_12 : decode cX10_init 12 = .ok (.aload_n 0, 1) := by decide +kernel
theorem dX10_init_13 : decode cX10_init 13 = .ok (.bipush 8, 2) := by decide +kernel
theorem dX10_init_15 : decode cX10_init 15 = .ok (.newarray .int, 2) := by decide +kernel
theorem dX10_init_17 : decode cX10_init 17 = .ok (.putfield 15, 3) := by decide +kernel
theorem dX10_init_20 : decode cX10_init 20 = .ok (.return_, 1) := by decide +kernel
theorem dX10_addOre_0 : decode cX10_addOre 0 = .ok (.iload_n 1, 1) := by decide +kernel
theorem dX10_addOre_1 : decode cX10_addOre 1 = .ok (.ifCond .lt 12, 3) := by decide +kernel
theorem dX10_addOre_4 : decode cX10_addOre 4 = .ok (.iload_n 1, 1) := by decide +kernel
theorem dX10_addOre_5 : decode cX10_addOre 5 = .ok (.aload_n 0, 1) := by decide +kernel
theorem dX10_addOre_6 : decode cX10_addOre 6 = .ok (.getfield 9, 3) := by decide +kernel
theorem dX10_addOre_9 : decode cX10_addOre 9 = .ok (.arraylength, 1) := by decide +kernel
theorem dX10_addOre_10 : decode cX10_addOre 10 = .ok (.if_icmp .lt 5, 3) := by decide +kernel
theorem dX10_addOre_13 : decode cX10_addOre 13 = .ok (.iconst (-1), 1) := by decide +kernel
theorem dX10_addOre_14 : decode cX10_addOre 14 = .ok (.ireturn, 1) := by decide +kernel
theorem dX10_addOre_15 : decode cX10_addOre 15 = .ok (.aload_n 0, 1) := by decide +kernel
theorem dX10_addOre_16 : decode cX10_addOre 16 = .ok (.getfield 9, 3) := by decide +kernel
theorem dX10_addOre_19 : decode cX10_addOre 19 = .ok (.iload_n 1, 1) := by decide +kernel
theorem dX10_addOre_20 : decode cX10_addOre 20 = .ok (.dup2, 1) := by decide +kernel
theorem dX10_addOre_21 : decode cX10_addOre 21 = .ok (.iaload, 1) := by decide +kernel
theorem dX10_addOre_22 : decode cX10_addOre 22 = .ok (.iload_n 2, 1) := by decide +kernel
theorem dX10_addOre_23 : decode cX10_addOre 23 = .ok (.iadd, 1) := by decide +kernel
theorem dX10_addOre_24 : decode cX10_addOre 24 = .ok (.iastore, 1) := by decide +kernel
theorem dX10_addOre_25 : decode cX10_addOre 25 = .ok (.aload_n 0, 1) := by decide +kernel
theorem dX10_addOre_26 : decode cX10_addOre 26 = .ok (.getfield 9, 3) := by decide +kernel
theorem dX10_addOre_29 : decode cX10_addOre 29 = .ok (.iload_n 1, 1) := by decide +kernel
theorem dX10_addOre_30 : decode cX10_addOre 30 = .ok (.iaload, 1) := by decide +kernel
theorem dX10_addOre_31 : decode cX10_addOre 31 = .ok (.ireturn, 1) := by decide +kernel
theorem dX10_addCoal_0 : decode cX10_addCoal 0 = .ok (.iload_n 1, 1) := by decide +kernel
theorem dX10_addCoal_1 : decode cX10_addCoal 1 = .ok (.ifCond .lt 25, 3) := by decide +kernel
theorem dX10_addCoal_4 : decode cX10_addCoal 4 = .ok (.iload_n 1, 1) := by decide +kernel
theorem dX10_addCoal_5 : decode cX10_addCoal 5 = .ok (.aload_n 0, 1) := by decide +kernel
theorem dX10_addCoal_6 : decode cX10_addCoal 6 = .ok (.getfield 15, 3) := by decide +kernel
theorem dX10_addCoal_9 : decode cX10_addCoal 9 = .ok (.arraylength, 1) := by decide +kernel
theorem dX10_addCoal_10 : decode cX10_addCoal 10 = .ok (.if_icmp .ge 16, 3) := by decide +kernel
theorem dX10_addCoal_13 : decode cX10_addCoal 13 = .ok (.aload_n 0, 1) := by decide +kernel
theorem dX10_addCoal_14 : decode cX10_addCoal 14 = .ok (.getfield 15, 3) := by decide +kernel
theorem dX10_addCoal_17 : decode cX10_addCoal 17 = .ok (.iload_n 1, 1) := by decide +kernel
theorem dX10_addCoal_18 : decode cX10_addCoal 18 = .ok (.iaload, 1) := by decide +kernel
theorem dX10_addCoal_19 : decode cX10_addCoal 19 = .ok (.iload_n 2, 1) := by decide +kernel
theorem dX10_addCoal_20 : decode cX10_addCoal 20 = .ok (.iadd, 1) := by decide +kernel
theorem dX10_addCoal_21 : decode cX10_addCoal 21 = .ok (.ldc 18, 2) := by decide +kernel
theorem dX10_addCoal_23 : decode cX10_addCoal 23 = .ok (.if_icmp .le 5, 3) := by decide +kernel
theorem dX10_addCoal_26 : decode cX10_addCoal 26 = .ok (.iconst (-1), 1) := by decide +kernel
theorem dX10_addCoal_27 : decode cX10_addCoal 27 = .ok (.ireturn, 1) := by decide +kernel
theorem dX10_addCoal_28 : decode cX10_addCoal 28 = .ok (.aload_n 0, 1) := by decide +kernel
theorem dX10_addCoal_29 : decode cX10_addCoal 29 = .ok (.getfield 15, 3) := by decide +kernel
theorem dX10_addCoal_32 : decode cX10_addCoal 32 = .ok (.iload_n 1, 1) := by decide +kernel
theorem dX10_addCoal_33 : decode cX10_addCoal 33 = .ok (.dup2, 1) := by decide +kernel
theorem dX10_addCoal_34 : decode cX10_addCoal 34 = .ok (.iaload, 1) := by decide +kernel
theorem dX10_addCoal_35 : decode cX10_addCoal 35 = .ok (.iload_n 2, 1) := by decide +kernel
theorem dX10_addCoal_36 : decode cX10_addCoal 36 = .ok (.iadd, 1) := by decide +kernel
theorem dX10_addCoal_37 : decode cX10_addCoal 37 = .ok (.iastore, 1) := by decide +kernel
theorem dX10_addCoal_38 : decode cX10_addCoal 38 = .ok (.aload_n 0, 1) := by decide +kernel
theorem dX10_addCoal_39 : decode cX10_addCoal 39 = .ok (.getfield 15, 3) := by decide +kernel
theorem dX10_addCoal_42 : decode cX10_addCoal 42 = .ok (.iload_n 1, 1) := by decide +kernel
theorem dX10_addCoal_43 : decode cX10_addCoal 43 = .ok (.iaload, 1) := by decide +kernel
theorem dX10_addCoal_44 : decode cX10_addCoal 44 = .ok (.ireturn, 1) := by decide +kernel
theorem dX11_init_0 : decode cX11_init 0 = .ok (.aload_n 0, 1) := by decide +kernel
theorem dX11_init_1 : decode cX11_init 1 = .ok (.invokespecial 3, 3) := by decide +kernel
theorem dX11_init_4 : decode cX11_init 4 = .ok (.aload_n 0, 1) := by decide +kernel
theorem dX11_init_5 : decode cX11_init 5 = .ok (.bipush 12, 2) := by decide +kernel
theorem dX11_init_7 : decode cX11_init 7 = .ok (.anewarray 9, 3) := by decide +kernel
theorem dX11_init_10 : decode cX11_init 10 = .ok (.putfield 11, 3) := by decide +kernel
theorem dX11_init_13 : decode cX11_init 13 = .ok (.aload_n 0, 1) := by decide +kernel
theorem dX11_init_14 : decode cX11_init 14 = .ok (.new 15, 3) := by decide +kernel
theorem dX11_init_17 : decode cX11_init 17 = .ok (.dup, 1) := by decide +kernel
theorem dX11_init_18 : decode cX11_init 18 = .ok (.invokespecial 17, 3) := by decide +kernel
theorem dX11_init_21 : decode cX11_init 21 = .ok (.putfield 18, 3) := by decide +kernel
theorem dX11_init_24 : decode cX11_init 24 = .ok (.aload_n 0, 1) := by decide +kernel
theorem dX11_init_25 : decode cX11_init 25 = .ok (.new 22, 3) := by decide +kernel
theorem dX11_init_28 : decode cX11_init 28 = .ok (.dup, 1) := by decide +kernel
theorem dX11_init_29 : decode cX11_init 29 = .ok (.invokespecial 24, 3) := by decide +kernel
theorem dX11_init_32 : decode cX11_init 32 = .ok (.putfield 25, 3) := by decide +kernel
theorem dX11_init_35 : decode cX11_init 35 = .ok (.aload_n 0, 1) := by decide +kernel
theorem dX11_init_36 : decode cX11_init 36 = .ok (.new 29, 3) := by decide +kernel
theorem dX11_init_39 : decode cX11_init 39 = .ok (.dup, 1) := by decide +kernel
theorem dX11_init_40 : decode cX11_init 40 = .ok (.invokespecial 31, 3) := by decide +kernel
theorem dX11_init_43 : decode cX11_init 43 = .ok (.putfield 32, 3) := by decide +kernel
theorem dX11_init_46 : decode cX11_init 46 = .ok (.aload_n 0, 1) := by decide +kernel
theorem dX11_init_47 : decode cX11_init 47 = .ok (.new 36, 3) := by decide +kernel
theorem dX11_init_50 : decode cX11_init 50 = .ok (.dup, 1) := by decide +kernel
theorem dX11_init_51 : decode cX11_init 51 = .ok (.invokespecial 38, 3) := by decide +kernel
theorem dX11_init_54 : decode cX11_init 54 = .ok (.putfield 39, 3) := by decide +kernel
theorem dX11_init_57 : decode cX11_init 57 = .ok (.aload_n 0, 1) := by decide +kernel
theorem dX11_init_58 : decode cX11_init 58 = .ok (.bipush 100, 2) := by decide +kernel
theorem dX11_init_60 : decode cX11_init 60 = .ok (.anewarray 43, 3) := by decide +kernel
theorem dX11_init_63 : decode cX11_init 63 = .ok (.putfield 45, 3) := by decide +kernel
theorem dX11_init_66 : decode cX11_init 66 = .ok (.aload_n 0, 1) := by decide +kernel
theorem dX11_init_67 : decode cX11_init 67 = .ok (.new 49, 3) := by decide +kernel
theorem dX11_init_70 : decode cX11_init 70 = .ok (.dup, 1) := by decide +kernel
theorem dX11_init_71 : decode cX11_init 71 = .ok (.invokespecial 51, 3) := by decide +kernel
theorem dX11_init_74 : decode cX11_init 74 = .ok (.putfield 52, 3) := by decide +kernel
theorem dX11_init_77 : decode cX11_init 77 = .ok (.aload_n 0, 1) := by decide +kernel
theorem dX11_init_78 : decode cX11_init 78 = .ok (.bipush 60, 2) := by decide +kernel
theorem dX11_init_80 : decode cX11_init 80 = .ok (.anewarray 56, 3) := by decide +kernel
theorem dX11_init_83 : decode cX11_init 83 = .ok (.putfield 58, 3) := by decide +kernel
theorem dX11_init_86 : decode cX11_init 86 = .ok (.aload_n 0, 1) := by decide +kernel
theorem dX11_init_87 : decode cX11_init 87 = .ok (.new 62, 3) := by decide +kernel
theorem dX11_init_90 : decode cX11_init 90 = .ok (.dup, 1) := by decide +kernel
theorem dX11_init_91 : decode cX11_init 91 = .ok (.invokespecial 64, 3) := by decide +kernel
theorem dX11_init_94 : decode cX11_init 94 = .ok (.putfield 65, 3) := by decide +kernel
theorem dX11_init_97 : decode cX11_init 97 = .ok (.aload_n 0, 1) := by decide +kernel
theorem dX11_init_98 : decode cX11_init 98 = .ok (.new 69, 3) := by decide +kernel
theorem dX11_init_101 : decode cX11_init 101 = .ok (.dup, 1) := by decide +kernel
theorem dX11_init_102 : decode cX11_init 102 = .ok (.invokespecial 71, 3) := by decide +kernel
theorem dX11_init_105 : decode cX11_init 105 = .ok (.putfield 72, 3) := by decide +kernel
theorem dX11_init_108 : decode cX11_init 108 = .ok (.aload_n 0, 1) := by decide +kernel
theorem dX11_init_109 : decode cX11_init 109 = .ok (.new 76, 3) := by decide +kernel
theorem dX11_init_112 : decode cX11_init 112 = .ok (.dup, 1) := by decide +kernel
theorem dX11_init_113 : decode cX11_init 113 = .ok (.invokespecial 78, 3) := by decide +kernel
theorem dX11_init_116 : decode cX11_init 116 = .ok (.putfield 79, 3) := by decide +kernel
theorem dX11_init_119 : decode cX11_init 119 = .ok (.aload_n 0, 1) := by decide +kernel
theorem dX11_init_120 : decode cX11_init 120 = .ok (.bipush 8, 2) := by decide +kernel
theorem dX11_init_122 : decode cX11_init 122 = .ok (.newarray .int, 2) := by decide +kernel
theorem dX11_init_124 : decode cX11_init 124 = .ok (.putfield 83, 3) := by decide +kernel
theorem dX11_init_127 : decode cX11_init 127 = .ok (.return_, 1) := by decide +kernel
theorem dX11_bog_0 : decode cX11_bog 0 = .ok (.aload_n 0, 1) := by decide +kernel
theorem dX11_bog_1 : decode cX11_bog 1 = .ok (.getfield 87, 3) := by decide +kernel
theorem dX11_bog_4 : decode cX11_bog 4 = .ok (.aload_n 0, 1) := by decide +kernel
theorem dX11_bog_5 : decode cX11_bog 5 = .ok (.getfield 11, 3) := by decide +kernel
theorem dX11_bog_8 : decode cX11_bog 8 = .ok (.arraylength, 1) := by decide +kernel
theorem dX11_bog_9 : decode cX11_bog 9 = .ok (.if_icmp .ge 34, 3) := by decide +kernel
theorem dX11_bog_12 : decode cX11_bog 12 = .ok (.iload_n 1, 1) := by decide +kernel
theorem dX11_bog_13 : decode cX11_bog 13 = .ok (.iconst 0, 1) := by decide +kernel
theorem dX11_bog_14 : decode cX11_bog 14 = .ok (.ldc 91, 2) := by decide +kernel
theorem dX11_bog_16 : decode cX11_bog 16 = .ok (.invokestatic 92, 3) := by decide +kernel
theorem dX11_bog_19 : decode cX11_bog 19 = .ok (.ifCond .eq 24, 3) := by decide +kernel
theorem dX11_bog_22 : decode cX11_bog 22 = .ok (.iload_n 2, 1) := by decide +kernel
theorem dX11_bog_23 : decode cX11_bog 23 = .ok (.iconst 0, 1) := by decide +kernel
theorem dX11_bog_24 : decode cX11_bog 24 = .ok (.sipush 5000, 3) := by decide +kernel
theorem dX11_bog_27 : decode cX11_bog 27 = .ok (.invokestatic 92, 3) := by decide +kernel
theorem dX11_bog_30 : decode cX11_bog 30 = .ok (.ifCond .eq 13, 3) := by decide +kernel
theorem dX11_bog_33 : decode cX11_bog 33 = .ok (.iload_n 3, 1) := by decide +kernel
theorem dX11_bog_34 : decode cX11_bog 34 = .ok (.iconst 0, 1) := by decide +kernel
theorem dX11_bog_35 : decode cX11_bog 35 = .ok (.bipush 20, 2) := by decide +kernel
theorem dX11_bog_37 : decode cX11_bog 37 = .ok (.invokestatic 92, 3) := by decide +kernel
theorem dX11_bog_40 : decode cX11_bog 40 = .ok (.ifCond .ne 5, 3) := by decide +kernel
theorem dX11_bog_43 : decode cX11_bog 43 = .ok (.iconst (-1), 1) := by decide +kernel
theorem dX11_bog_44 : decode cX11_bog 44 = .ok (.ireturn, 1) := by decide +kernel
theorem dX11_bog_45 : decode cX11_bog 45 = .ok (.aload_n 0, 1) := by decide +kernel
theorem dX11_bog_46 : decode cX11_bog 46 = .ok (.getfield 11, 3) := by decide +kernel
theorem dX11_bog_49 : decode cX11_bog 49 = .ok (.aload_n 0, 1) := by decide +kernel
theorem dX11_bog_50 : decode cX11_bog 50 = .ok (.getfield 87, 3) := by decide +kernel
theorem dX11_bog_53 : decode cX11_bog 53 = .ok (.new 9, 3) := by decide +kernel
theorem dX11_bog_56 : decode cX11_bog 56 = .ok (.dup, 1) := by decide +kernel
theorem dX11_bog_57 : decode cX11_bog 57 = .ok (.iload_n 1, 1) := by decide +kernel
theorem dX11_bog_58 : decode cX11_bog 58 = .ok (.iload_n 2, 1) := by decide +kernel
theorem dX11_bog_59 : decode cX11_bog 59 = .ok (.iload_n 3, 1) := by decide +kernel
theorem dX11_bog_60 : decode cX11_bog 60 = .ok (.invokespecial 96, 3) := by decide +kernel
theorem dX11_bog_63 : decode cX11_bog 63 = .ok (.aastore, 1) := by decide +kernel
theorem dX11_bog_64 : decode cX11_bog 64 = .ok (.aload_n 0, 1) := by decide +kernel
theorem dX11_bog_65 : decode cX11_bog 65 = .ok (.dup, 1) := by decide +kernel
theorem dX11_bog_66 : decode cX11_bog 66 = .ok (.getfield 87, 3) := by decide +kernel
theorem dX11_bog_69 : decode cX11_bog 69 = .ok (.dup_x1, 1) := by decide +kernel
theorem dX11_bog_70 : decode cX11_bog 70 = .ok (.iconst 1, 1) := by decide +kernel
theorem dX11_bog_71 : decode cX11_bog 71 = .ok (.iadd, 1) := by decide +kernel
theorem dX11_bog_72 : decode cX11_bog 72 = .ok (.putfield 87, 3) := by decide +kernel
theorem dX11_bog_75 : decode cX11_bog 75 = .ok (.ireturn, 1) := by decide +kernel
theorem dX11_test_0 : decode cX11_test 0 = .ok (.aload_n 0, 1) := by decide +kernel
theorem dX11_test_1 : decode cX11_test 1 = .ok (.iload_n 1, 1) := by decide +kernel
theorem dX11_test_2 : decode cX11_test 2 = .ok (.invokevirtual 99, 3) := by decide +kernel
theorem dX11_test_5 : decode cX11_test 5 = .ok (.astore 4, 2) := by decide +kernel
theorem dX11_test_7 : decode cX11_test 7 = .ok (.aload 4, 2) := by decide +kernel
theorem dX11_test_9 : decode cX11_test 9 = .ok (.ifnull 25, 3) := by decide +kernel
theorem dX11_test_12 : decode cX11_test 12 = .ok (.iload_n 2, 1) := by decide +kernel
theorem dX11_test_13 : decode cX11_test 13 = .ok (.iconst 0, 1) := by decide +kernel
theorem dX11_test_14 : decode cX11_test 14 = .ok (.sipush 1000, 3) := by decide +kernel
theorem dX11_test_17 : decode cX11_test 17 = .ok (.invokestatic 92, 3) := by decide +kernel
theorem dX11_test_20 : decode cX11_test 20 = .ok (.ifCond .eq 14, 3) := by decide +kernel
theorem dX11_test_23 : decode cX11_test 23 = .ok (.iload_n 3, 1) := by decide +kernel
theorem dX11_test_24 : decode cX11_test 24 = .ok (.iload_n 2, 1) := by decide +kernel
theorem dX11_test_25 : decode cX11_test 25 = .ok (.sipush 1000, 3) := by decide +kernel
theorem dX11_test_28 : decode cX11_test 28 = .ok (.invokestatic 92, 3) := by decide +kernel
theorem dX11_test_31 : decode cX11_test 31 = .ok (.ifCond .ne 5, 3) := by decide +kernel
theorem dX11_test_34 : decode cX11_test 34 = .ok (.iconst 0, 1) := by decide +kernel
theorem dX11_test_35 : decode cX11_test 35 = .ok (.ireturn, 1) := by decide +kernel
theorem dX11_test_36 : decode cX11_test 36 = .ok (.aload 4, 2) := by decide +kernel
theorem dX11_test_38 : decode cX11_test 38 = .ok (.iload_n 2, 1) := by decide +kernel
theorem dX11_test_39 : decode cX11_test 39 = .ok (.iload_n 3, 1) := by decide +kernel
theorem dX11_test_40 : decode cX11_test 40 = .ok (.invokevirtual 103, 3) := by decide +kernel
theorem dX11_test_43 : decode cX11_test 43 = .ok (.ireturn, 1) := by decide +kernel
theorem dX11_dig_0 : decode cX11_dig 0 = .ok (.aload_n 0, 1) := by decide +kernel
theorem dX11_dig_1 : decode cX11_dig 1 = .ok (.iload_n 1, 1) := by decide +kernel
theorem dX11_dig_2 : decode cX11_dig 2 = .ok (.invokevirtual 99, 3) := by decide +kernel
theorem dX11_dig_5 : decode cX11_dig 5 = .ok (.astore_n 3, 1) := by decide +kernel
theorem dX11_dig_6 : decode cX11_dig 6 = .ok (.aload_n 3, 1) := by decide +kernel
theorem dX11_dig_7 : decode cX11_dig 7 = .ok (.ifnull 26, 3) := by decide +kernel
theorem dX11_dig_10 : decode cX11_dig 10 = .ok (.iload_n 2, 1) := by decide +kernel
theorem dX11_dig_11 : decode cX11_dig 11 = .ok (.iconst 1, 1) := by decide +kernel
theorem dX11_dig_12 : decode cX11_dig 12 = .ok (.aload_n 3, 1) := by decide +kernel
theorem dX11_dig_13 : decode cX11_dig 13 = .ok (.getfield 107, 3) := by decide +kernel
theorem dX11_dig_16 : decode cX11_dig 16 = .ok (.invokestatic 92, 3) := by decide +kernel
theorem dX11_dig_19 : decode cX11_dig 19 = .ok (.ifCond .eq 14, 3) := by decide +kernel
theorem dX11_dig_22 : decode cX11_dig 22 = .ok (.aload_n 3, 1) := by decide +kernel
theorem dX11_dig_23 : decode cX11_dig 23 = .ok (.aload_n 0, 1) := by decide +kernel
theorem dX11_dig_24 : decode cX11_dig 24 = .ok (.getfield 110, 3) := by decide +kernel
theorem dX11_dig_27 : decode cX11_dig 27 = .ok (.invokevirtual 113, 3) := by decide +kernel
theorem dX11_dig_30 : decode cX11_dig 30 = .ok (.ifCond .eq 5, 3) := by decide +kernel
theorem dX11_dig_33 : decode cX11_dig 33 = .ok (.iconst (-1), 1) := by decide +kernel
theorem dX11_dig_34 : decode cX11_dig 34 = .ok (.ireturn, 1) := by decide +kernel
theorem dX11_dig_35 : decode cX11_dig 35 = .ok (.aload_n 3, 1) := by decide +kernel
theorem dX11_dig_36 : decode cX11_dig 36 = .ok (.dup, 1) := by decide +kernel
theorem dX11_dig_37 : decode cX11_dig 37 = .ok (.getfield 107, 3) := by decide +kernel
theorem dX11_dig_40 : decode cX11_dig 40 = .ok (.iload_n 2, 1) := by decide +kernel
theorem dX11_dig_41 : decode cX11_dig 41 = .ok (.isub, 1) := by decide +kernel
theorem dX11_dig_42 : decode cX11_dig 42 = .ok (.putfield 107, 3) := by decide +kernel
theorem dX11_dig_45 : decode cX11_dig 45 = .ok (.aload_n 3, 1) := by decide +kernel
theorem dX11_dig_46 : decode cX11_dig 46 = .ok (.aload_n 0, 1) := by decide +kernel
theorem dX11_dig_47 : decode cX11_dig 47 = .ok (.getfield 110, 3) := by decide +kernel
theorem dX11_dig_50 : decode cX11_dig 50 = .ok (.putfield 117, 3) := by decide +kernel
theorem dX11_dig_53 : decode cX11_dig 53 = .ok (.aload_n 0, 1) := by decide +kernel
theorem dX11_dig_54 : decode cX11_dig 54 = .ok (.getfield 18, 3) := by decide +kernel
theorem dX11_dig_57 : decode cX11_dig 57 = .ok (.iload_n 1, 1) := by decide +kernel
theorem dX11_dig_58 : decode cX11_dig 58 = .ok (.iload_n 2, 1) := by decide +kernel
theorem dX11_dig_59 : decode cX11_dig 59 = .ok (.invokevirtual 120, 3) := by decide +kernel
theorem dX11_dig_62 : decode cX11_dig 62 = .ok (.ireturn, 1) := by decide +kernel
theorem dX11_coal_0 : decode cX11_coal 0 = .ok (.iload_n 2, 1) := by decide +kernel
theorem dX11_coal_1 : decode cX11_coal 1 = .ok (.iconst 1, 1) := by decide +kernel
theorem dX11_coal_2 : decode cX11_coal 2 = .ok (.sipush 10000, 3) := by decide +kernel
theorem dX11_coal_5 : decode cX11_coal 5 = .ok (.invokestatic 92, 3) := by decide +kernel
theorem dX11_coal_8 : decode cX11_coal 8 = .ok (.ifCond .eq 15, 3) := by decide +kernel
theorem dX11_coal_11 : decode cX11_coal 11 = .ok (.aload_n 0, 1) := by decide +kernel
theorem dX11_coal_12 : decode cX11_coal 12 = .ok (.getfield 18, 3) := by decide +kernel
theorem dX11_coal_15 : decode cX11_coal 15 = .ok (.iload_n 1, 1) := by decide +kernel
theorem dX11_coal_16 : decode cX11_coal 16 = .ok (.iload_n 2, 1) := by decide +kernel
theorem dX11_coal_17 : decode cX11_coal 17 = .ok (.invokevirtual 124, 3) := by decide +kernel
theorem dX11_coal_20 : decode cX11_coal 20 = .ok (.goto 4, 3) := by decide +kernel
theorem dX11_coal_23 : decode cX11_coal 23 = .ok (.iconst (-1), 1) := by decide +kernel
theorem dX11_coal_24 : decode cX11_coal 24 = .ok (.ireturn, 1) := by decide +kernel
theorem dX11_year_0 : decode cX11_year 0 = .ok (.aload_n 0, 1) := by decide +kernel
theorem dX11_year_1 : decode cX11_year 1 = .ok (.getfield 110, 3) := by decide +kernel
theorem dX11_year_4 : decode cX11_year 4 = .ok (.bipush 100, 2) := by decide +kernel
theorem dX11_year_6 : decode cX11_year 6 = .ok (.if_icmp .ge 13, 3) := by decide +kernel
theorem dX11_year_9 : decode cX11_year 9 = .ok (.aload_n 0, 1) := by decide +kernel
theorem dX11_year_10 : decode cX11_year 10 = .ok (.getfield 39, 3) := by decide +kernel
theorem dX11_year_13 : decode cX11_year 13 = .ok (.invokevirtual 127, 3) := by decide +kernel
theorem dX11_year_16 : decode cX11_year 16 = .ok (.ifCond .eq 5, 3) := by decide +kernel
theorem dX11_year_19 : decode cX11_year 19 = .ok (.iconst (-1), 1) := by decide +kernel
theorem dX11_year_20 : decode cX11_year 20 = .ok (.ireturn, 1) := by decide +kernel
theorem dX11_year_21 : decode cX11_year 21 = .ok (.iconst 0, 1) := by decide +kernel
theorem dX11_year_22 : decode cX11_year 22 = .ok (.istore_n 1, 1) := by decide +kernel
theorem dX11_year_23 : decode cX11_year 23 = .ok (.iload_n 1, 1) := by decide +kernel
theorem dX11_year_24 : decode cX11_year 24 = .ok (.aload_n 0, 1) := by decide +kernel
theorem dX11_year_25 : decode cX11_year 25 = .ok (.getfield 87, 3) := by decide +kernel
theorem dX11_year_28 : decode cX11_year 28 = .ok (.if_icmp .ge 23, 3) := by decide +kernel
theorem dX11_year_31 : decode cX11_year 31 = .ok (.aload_n 0, 1) := by decide +kernel
theorem dX11_year_32 : decode cX11_year 32 = .ok (.iload_n 1, 1) := by decide +kernel
theorem dX11_year_33 : decode cX11_year 33 = .ok (.invokevirtual 99, 3) := by decide +kernel
theorem dX11_year_36 : decode cX11_year 36 = .ok (.astore_n 2, 1) := by decide +kernel
theorem dX11_year_37 : decode cX11_year 37 = .ok (.aload_n 2, 1) := by decide +kernel
theorem dX11_year_38 : decode cX11_year 38 = .ok (.ifnull 7, 3) := by decide +kernel
theorem dX11_year_41 : decode cX11_year 41 = .ok (.aload_n 2, 1) := by decide +kernel
theorem dX11_year_42 : decode cX11_year 42 = .ok (.invokevirtual 131, 3) := by decide +kernel
theorem dX11_year_45 : decode cX11_year 45 = .ok (.iinc 1 1, 3) := by decide +kernel
theorem dX11_year_48 : decode cX11_year 48 = .ok (.goto (-25), 3) := by decide +kernel
theorem dX11_year_51 : decode cX11_year 51 = .ok (.aload_n 0, 1) := by decide +kernel
theorem dX11_year_52 : decode cX11_year 52 = .ok (.dup, 1) := by decide +kernel
theorem dX11_year_53 : decode cX11_year 53 = .ok (.getfield 110, 3) := by decide +kernel
theorem dX11_year_56 : decode cX11_year 56 = .ok (.iconst 1, 1) := by decide +kernel
theorem dX11_year_57 : decode cX11_year 57 = .ok (.iadd, 1) := by decide +kernel
theorem dX11_year_58 : decode cX11_year 58 = .ok (.putfield 110, 3) := by decide +kernel
theorem dX11_year_61 : decode cX11_year 61 = .ok (.aload_n 0, 1) := by decide +kernel
theorem dX11_year_62 : decode cX11_year 62 = .ok (.getfield 110, 3) := by decide +kernel
theorem dX11_year_65 : decode cX11_year 65 = .ok (.ireturn, 1) := by decide +kernel
theorem dX11_ground_0 : decode cX11_ground 0 = .ok (.aload_n 0, 1) := by decide +kernel
theorem dX11_ground_1 : decode cX11_ground 1 = .ok (.iload_n 1, 1) := by decide +kernel
theorem dX11_ground_2 : decode cX11_ground 2 = .ok (.invokevirtual 99, 3) := by decide +kernel
theorem dX11_ground_5 : decode cX11_ground 5 = .ok (.astore_n 3, 1) := by decide +kernel
theorem dX11_ground_6 : decode cX11_ground 6 = .ok (.aload_n 3, 1) := by decide +kernel
theorem dX11_ground_7 : decode cX11_ground 7 = .ok (.ifnonnull 5, 3) := by decide +kernel
theorem dX11_ground_10 : decode cX11_ground 10 = .ok (.iconst (-1), 1) := by decide +kernel
theorem dX11_ground_11 : decode cX11_ground 11 = .ok (.ireturn, 1) := by decide +kernel
theorem dX11_ground_12 : decode cX11_ground 12 = .ok (.iload_n 2, 1) := by decide +kernel
theorem dX11_ground_13 : decode cX11_ground 13 = .ok (.tableswitch 85 0 6 #[43, 48, 53, 58, 63, 68, 73], 43) := by decide +kernel
theorem dX11_ground_56 : decode cX11_ground 56 = .ok (.aload_n 3, 1) := by decide +kernel
theorem dX11_ground_57 : decode cX11_ground 57 = .ok (.getfield 107, 3) := by decide +kernel
theorem dX11_ground_60 : decode cX11_ground 60 = .ok (.ireturn, 1) := by decide +kernel
theorem dX11_ground_61 : decode cX11_ground 61 = .ok (.aload_n 3, 1) := by decide +kernel
theorem dX11_ground_62 : decode cX11_ground 62 = .ok (.getfield 134, 3) := by decide +kernel
theorem dX11_ground_65 : decode cX11_ground 65 = .ok (.ireturn, 1) := by decide +kernel
theorem dX11_ground_66 : decode cX11_ground 66 = .ok (.aload_n 3, 1) := by decide +kernel
theorem dX11_ground_67 : decode cX11_ground 67 = .ok (.getfield 137, 3) := by decide +kernel
theorem dX11_ground_70 : decode cX11_ground 70 = .ok (.ireturn, 1) := by decide +kernel
theorem dX11_ground_71 : decode cX11_ground 71 = .ok (.aload_n 3, 1) := by decide +kernel
theorem dX11_ground_72 : decode cX11_ground 72 = .ok (.getfield 140, 3) := by decide +kernel
theorem dX11_ground_75 : decode cX11_ground 75 = .ok (.ireturn, 1) := by decide +kernel
theorem dX11_ground_76 : decode cX11_ground 76 = .ok (.aload_n 3, 1) := by decide +kernel
theorem dX11_ground_77 : decode cX11_ground 77 = .ok (.getfield 143, 3) := by decide +kernel
theorem dX11_ground_80 : decode cX11_ground 80 = .ok (.ireturn, 1) := by decide +kernel
theorem dX11_ground_81 : decode cX11_ground 81 = .ok (.aload_n 3, 1) := by decide +kernel
theorem dX11_ground_82 : decode cX11_ground 82 = .ok (.getfield 117, 3) := by decide +kernel
theorem dX11_ground_85 : decode cX11_ground 85 = .ok (.ireturn, 1) := by decide +kernel
theorem dX11_ground_86 : decode cX11_ground 86 = .ok (.aload_n 0, 1) := by decide +kernel
theorem dX11_ground_87 : decode cX11_ground 87 = .ok (.getfield 18, 3) := by decide +kernel
theorem dX11_ground_90 : decode cX11_ground 90 = .ok (.getfield 146, 3) := by decide +kernel
theorem dX11_ground_93 : decode cX11_ground 93 = .ok (.iload_n 1, 1) := by decide +kernel
theorem dX11_ground_94 : decode cX11_ground 94 = .ok (.invokestatic 148, 3) := by decide +kernel
theorem dX11_ground_97 : decode cX11_ground 97 = .ok (.ireturn, 1) := by decide +kernel
theorem dX11_ground_98 : decode cX11_ground 98 = .ok (.iconst (-1), 1) := by decide +kernel
theorem dX11_ground_99 : decode cX11_ground 99 = .ok (.ireturn, 1) := by decide +kernel
theorem dX11_feed_0 : decode cX11_feed 0 = .ok (.iload_n 1, 1) := by decide +kernel
theorem dX11_feed_1 : decode cX11_feed 1 = .ok (.invokestatic 152, 3) := by decide +kernel
theorem dX11_feed_4 : decode cX11_feed 4 = .ok (.iload_n 2, 1) := by decide +kernel
theorem dX11_feed_5 : decode cX11_feed 5 = .ok (.invokestatic 152, 3) := by decide +kernel
theorem dX11_feed_8 : decode cX11_feed 8 = .ok (.iadd, 1) := by decide +kernel
theorem dX11_feed_9 : decode cX11_feed 9 = .ok (.iload_n 3, 1) := by decide +kernel
theorem dX11_feed_10 : decode cX11_feed 10 = .ok (.invokestatic 152, 3) := by decide +kernel
theorem dX11_feed_13 : decode cX11_feed 13 = .ok (.iadd, 1) := by decide +kernel
theorem dX11_feed_14 : decode cX11_feed 14 = .ok (.iload 4, 2) := by decide +kernel
theorem dX11_feed_16 : decode cX11_feed 16 = .ok (.invokestatic 152, 3) := by decide +kernel
theorem dX11_feed_19 : decode cX11_feed 19 = .ok (.iadd, 1) := by decide +kernel
theorem dX11_feed_20 : decode cX11_feed 20 = .ok (.iload 5, 2) := by decide +kernel
theorem dX11_feed_22 : decode cX11_feed 22 = .ok (.invokestatic 152, 3) := by decide +kernel
theorem dX11_feed_25 : decode cX11_feed 25 = .ok (.iadd, 1) := by decide +kernel
theorem dX11_feed_26 : decode cX11_feed 26 = .ok (.istore 6, 2) := by decide +kernel
theorem dX11_feed_28 : decode cX11_feed 28 = .ok (.aload_n 0, 1) := by decide +kernel
theorem dX11_feed_29 : decode cX11_feed 29 = .ok (.getfield 25, 3) := by decide +kernel
theorem dX11_feed_32 : decode cX11_feed 32 = .ok (.getfield 156, 3) := by decide +kernel
theorem dX11_feed_35 : decode cX11_feed 35 = .ok (.iload 6, 2) := by decide +kernel
theorem dX11_feed_37 : decode cX11_feed 37 = .ok (.iadd, 1) := by decide +kernel
theorem dX11_feed_38 : decode cX11_feed 38 = .ok (.sipush 200, 3) := by decide +kernel
theorem dX11_feed_41 : decode cX11_feed 41 = .ok (.if_icmp .le 5, 3) := by decide +kernel
theorem dX11_feed_44 : decode cX11_feed 44 = .ok (.iconst (-1), 1) := by decide +kernel
theorem dX11_feed_45 : decode cX11_feed 45 = .ok (.ireturn, 1) := by decide +kernel
theorem dX11_feed_46 : decode cX11_feed 46 = .ok (.aload_n 0, 1) := by decide +kernel
theorem dX11_feed_47 : decode cX11_feed 47 = .ok (.getfield 25, 3) := by decide +kernel
theorem dX11_feed_50 : decode cX11_feed 50 = .ok (.iload_n 1, 1) := by decide +kernel
theorem dX11_feed_51 : decode cX11_feed 51 = .ok (.invokevirtual 159, 3) := by decide +kernel
theorem dX11_feed_54 : decode cX11_feed 54 = .ok (.aload_n 0, 1) := by decide +kernel
theorem dX11_feed_55 : decode cX11_feed 55 = .ok (.getfield 25, 3) := by decide +kernel
theorem dX11_feed_58 : decode cX11_feed 58 = .ok (.iload_n 2, 1) := by decide +kernel
theorem dX11_feed_59 : decode cX11_feed 59 = .ok (.invokevirtual 159, 3) := by decide +kernel
theorem dX11_feed_62 : decode cX11_feed 62 = .ok (.aload_n 0, 1) := by decide +kernel
theorem dX11_feed_63 : decode cX11_feed 63 = .ok (.getfield 25, 3) := by decide +kernel
theorem dX11_feed_66 : decode cX11_feed 66 = .ok (.iload_n 3, 1) := by decide +kernel
theorem dX11_feed_67 : decode cX11_feed 67 = .ok (.invokevirtual 159, 3) := by decide +kernel
theorem dX11_feed_70 : decode cX11_feed 70 = .ok (.aload_n 0, 1) := by decide +kernel
theorem dX11_feed_71 : decode cX11_feed 71 = .ok (.getfield 25, 3) := by decide +kernel
theorem dX11_feed_74 : decode cX11_feed 74 = .ok (.iload 4, 2) := by decide +kernel
theorem dX11_feed_76 : decode cX11_feed 76 = .ok (.invokevirtual 159, 3) := by decide +kernel
theorem dX11_feed_79 : decode cX11_feed 79 = .ok (.aload_n 0, 1) := by decide +kernel
theorem dX11_feed_80 : decode cX11_feed 80 = .ok (.getfield 25, 3) := by decide +kernel
theorem dX11_feed_83 : decode cX11_feed 83 = .ok (.iload 5, 2) := by decide +kernel
theorem dX11_feed_85 : decode cX11_feed 85 = .ok (.invokevirtual 159, 3) := by decide +kernel
theorem dX11_feed_88 : decode cX11_feed 88 = .ok (.aload_n 0, 1) := by decide +kernel
theorem dX11_feed_89 : decode cX11_feed 89 = .ok (.getfield 25, 3) := by decide +kernel
theorem dX11_feed_92 : decode cX11_feed 92 = .ok (.getfield 156, 3) := by decide +kernel
theorem dX11_feed_95 : decode cX11_feed 95 = .ok (.ireturn, 1) := by decide +kernel
theorem dX11_end_0 : decode cX11_end 0 = .ok (.iload_n 1, 1) := by decide +kernel
theorem dX11_end_1 : decode cX11_end 1 = .ok (.iconst 0, 1) := by decide +kernel
theorem dX11_end_2 : decode cX11_end 2 = .ok (.aload_n 0, 1) := by decide +kernel
theorem dX11_end_3 : decode cX11_end 3 = .ok (.getfield 25, 3) := by decide +kernel
theorem dX11_end_6 : decode cX11_end 6 = .ok (.getfield 156, 3) := by decide +kernel
theorem dX11_end_9 : decode cX11_end 9 = .ok (.invokestatic 92, 3) := by decide +kernel
theorem dX11_end_12 : decode cX11_end 12 = .ok (.ifCond .ne 5, 3) := by decide +kernel
theorem dX11_end_15 : decode cX11_end 15 = .ok (.iconst 0, 1) := by decide +kernel
theorem dX11_end_16 : decode cX11_end 16 = .ok (.ireturn, 1) := by decide +kernel
theorem dX11_end_17 : decode cX11_end 17 = .ok (.aload_n 0, 1) := by decide +kernel
theorem dX11_end_18 : decode cX11_end 18 = .ok (.getfield 25, 3) := by decide +kernel
theorem dX11_end_21 : decode cX11_end 21 = .ok (.iload_n 1, 1) := by decide +kernel
theorem dX11_end_22 : decode cX11_end 22 = .ok (.putfield 156, 3) := by decide +kernel
theorem dX11_end_25 : decode cX11_end 25 = .ok (.iconst 1, 1) := by decide +kernel
theorem dX11_end_26 : decode cX11_end 26 = .ok (.ireturn, 1) := by decide +kernel
theorem dX11_fault_0 : decode cX11_fault 0 = .ok (.aload_n 0, 1) := by decide +kernel
theorem dX11_fault_1 : decode cX11_fault 1 = .ok (.getfield 25, 3) := by decide +kernel
theorem dX11_fault_4 : decode cX11_fault 4 = .ok (.invokevirtual 163, 3) := by decide +kernel
theorem dX11_fault_7 : decode cX11_fault 7 = .ok (.ireturn, 1) := by decide +kernel
theorem dX11_rules_0 : decode cX11_rules 0 = .ok (.aload_n 0, 1) := by decide +kernel
theorem dX11_rules_1 : decode cX11_rules 1 = .ok (.getfield 25, 3) := by decide +kernel
theorem dX11_rules_4 : decode cX11_rules 4 = .ok (.invokevirtual 163, 3) := by decide +kernel
theorem dX11_rules_7 : decode cX11_rules 7 = .ok (.iconst (-1), 1) := by decide +kernel
theorem dX11_rules_8 : decode cX11_rules 8 = .ok (.if_icmp .eq 5, 3) := by decide +kernel
theorem dX11_rules_11 : decode cX11_rules 11 = .ok (.iconst 0, 1) := by decide +kernel
theorem dX11_rules_12 : decode cX11_rules 12 = .ok (.ireturn, 1) := by decide +kernel
theorem dX11_rules_13 : decode cX11_rules 13 = .ok (.aload_n 0, 1) := by decide +kernel
theorem dX11_rules_14 : decode cX11_rules 14 = .ok (.getfield 32, 3) := by decide +kernel
theorem dX11_rules_17 : decode cX11_rules 17 = .ok (.aload_n 0, 1) := by decide +kernel
theorem dX11_rules_18 : decode cX11_rules 18 = .ok (.getfield 25, 3) := by decide +kernel
theorem dX11_rules_21 : decode cX11_rules 21 = .ok (.invokevirtual 167, 3) := by decide +kernel
theorem dX11_rules_24 : decode cX11_rules 24 = .ok (.aload_n 0, 1) := by decide +kernel
theorem dX11_rules_25 : decode cX11_rules 25 = .ok (.getfield 25, 3) := by decide +kernel
theorem dX11_rules_28 : decode cX11_rules 28 = .ok (.iconst 0, 1) := by decide +kernel
theorem dX11_rules_29 : decode cX11_rules 29 = .ok (.putfield 156, 3) := by decide +kernel
theorem dX11_rules_32 : decode cX11_rules 32 = .ok (.iconst 1, 1) := by decide +kernel
theorem dX11_rules_33 : decode cX11_rules 33 = .ok (.ireturn, 1) := by decide +kernel
theorem dX11_water_0 : decode cX11_water 0 = .ok (.iload_n 1, 1) := by decide +kernel
theorem dX11_water_1 : decode cX11_water 1 = .ok (.iconst 0, 1) := by decide +kernel
theorem dX11_water_2 : decode cX11_water 2 = .ok (.bipush 9, 2) := by decide +kernel
theorem dX11_water_4 : decode cX11_water 4 = .ok (.invokestatic 92, 3) := by decide +kernel
theorem dX11_water_7 : decode cX11_water 7 = .ok (.ifCond .ne 5, 3) := by decide +kernel
theorem dX11_water_10 : decode cX11_water 10 = .ok (.iconst 0, 1) := by decide +kernel
theorem dX11_water_11 : decode cX11_water 11 = .ok (.ireturn, 1) := by decide +kernel
theorem dX11_water_12 : decode cX11_water 12 = .ok (.aload_n 0, 1) := by decide +kernel
theorem dX11_water_13 : decode cX11_water 13 = .ok (.getfield 39, 3) := by decide +kernel
theorem dX11_water_16 : decode cX11_water 16 = .ok (.iload_n 1, 1) := by decide +kernel
theorem dX11_water_17 : decode cX11_water 17 = .ok (.putfield 171, 3) := by decide +kernel
theorem dX11_water_20 : decode cX11_water 20 = .ok (.iconst 1, 1) := by decide +kernel
theorem dX11_water_21 : decode cX11_water 21 = .ok (.ireturn, 1) := by decide +kernel
theorem dX11_gap_0 : decode cX11_gap 0 = .ok (.iload_n 1, 1) := by decide +kernel
theorem dX11_gap_1 : decode cX11_gap 1 = .ok (.iconst 1, 1) := by decide +kernel
theorem dX11_gap_2 : decode cX11_gap 2 = .ok (.bipush 30, 2) := by decide +kernel
theorem dX11_gap_4 : decode cX11_gap 4 = .ok (.invokestatic 92, 3) := by decide +kernel
theorem dX11_gap_7 : decode cX11_gap 7 = .ok (.ifCond .ne 5, 3) := by decide +kernel
theorem dX11_gap_10 : decode cX11_gap 10 = .ok (.iconst 0, 1) := by decide +kernel
theorem dX11_gap_11 : decode cX11_gap 11 = .ok (.ireturn, 1) := by decide +kernel
theorem dX11_gap_12 : decode cX11_gap 12 = .ok (.aload_n 0, 1) := by decide +kernel
theorem dX11_gap_13 : decode cX11_gap 13 = .ok (.getfield 39, 3) := by decide +kernel
theorem dX11_gap_16 : decode cX11_gap 16 = .ok (.iload_n 1, 1) := by decide +kernel
theorem dX11_gap_17 : decode cX11_gap 17 = .ok (.putfield 174, 3) := by decide +kernel
theorem dX11_gap_20 : decode cX11_gap 20 = .ok (.iconst 1, 1) := by decide +kernel
theorem dX11_gap_21 : decode cX11_gap 21 = .ok (.ireturn, 1) := by decide +kernel
theorem dX11_charge_0 : decode cX11_charge 0 = .ok (.iload_n 1, 1) := by decide +kernel
theorem dX11_charge_1 : decode cX11_charge 1 = .ok (.iconst 0, 1) := by decide +kernel
theorem dX11_charge_2 : decode cX11_charge 2 = .ok (.sipush 5000, 3) := by decide +kernel
theorem dX11_charge_5 : decode cX11_charge 5 = .ok (.invokestatic 92, 3) := by decide +kernel
theorem dX11_charge_8 : decode cX11_charge 8 = .ok (.ifCond .eq 48, 3) := by decide +kernel
theorem dX11_charge_11 : decode cX11_charge 11 = .ok (.iload_n 2, 1) := by decide +kernel
theorem dX11_charge_12 : decode cX11_charge 12 = .ok (.iconst 0, 1) := by decide +kernel
theorem dX11_charge_13 : decode cX11_charge 13 = .ok (.sipush 5000, 3) := by decide +kernel
theorem dX11_charge_16 : decode cX11_charge 16 = .ok (.invokestatic 92, 3) := by decide +kernel
theorem dX11_charge_19 : decode cX11_charge 19 = .ok (.ifCond .eq 37, 3) := by decide +kernel
theorem dX11_charge_22 : decode cX11_charge 22 = .ok (.iload_n 1, 1) := by decide +kernel
theorem dX11_charge_23 : decode cX11_charge 23 = .ok (.iload_n 2, 1) := by decide +kernel
theorem dX11_charge_24 : decode cX11_charge 24 = .ok (.iadd, 1) := by decide +kernel
theorem dX11_charge_25 : decode cX11_charge 25 = .ok (.ifCond .eq 31, 3) := by decide +kernel
theorem dX11_charge_28 : decode cX11_charge 28 = .ok (.iload_n 1, 1) := by decide +kernel
theorem dX11_charge_29 : decode cX11_charge 29 = .ok (.aload_n 0, 1) := by decide +kernel
theorem dX11_charge_30 : decode cX11_charge 30 = .ok (.getfield 18, 3) := by decide +kernel
theorem dX11_charge_33 : decode cX11_charge 33 = .ok (.getfield 146, 3) := by decide +kernel
theorem dX11_charge_36 : decode cX11_charge 36 = .ok (.invokestatic 177, 3) := by decide +kernel
theorem dX11_charge_39 : decode cX11_charge 39 = .ok (.if_icmp .gt 17, 3) := by decide +kernel
theorem dX11_charge_42 : decode cX11_charge 42 = .ok (.iload_n 2, 1) := by decide +kernel
theorem dX11_charge_43 : decode cX11_charge 43 = .ok (.aload_n 0, 1) := by decide +kernel
theorem dX11_charge_44 : decode cX11_charge 44 = .ok (.getfield 18, 3) := by decide +kernel
theorem dX11_charge_47 : decode cX11_charge 47 = .ok (.getfield 181, 3) := by decide +kernel
theorem dX11_charge_50 : decode cX11_charge 50 = .ok (.invokestatic 177, 3) := by decide +kernel
theorem dX11_charge_53 : decode cX11_charge 53 = .ok (.if_icmp .le 5, 3) := by decide +kernel
theorem dX11_charge_56 : decode cX11_charge 56 = .ok (.iconst 0, 1) := by decide +kernel
theorem dX11_charge_57 : decode cX11_charge 57 = .ok (.ireturn, 1) := by decide +kernel
theorem dX11_charge_58 : decode cX11_charge 58 = .ok (.aload_n 0, 1) := by decide +kernel
theorem dX11_charge_59 : decode cX11_charge 59 = .ok (.getfield 79, 3) := by decide +kernel
theorem dX11_charge_62 : decode cX11_charge 62 = .ok (.iload_n 1, 1) := by decide +kernel
theorem dX11_charge_63 : decode cX11_charge 63 = .ok (.aload_n 0, 1) := by decide +kernel
theorem dX11_charge_64 : decode cX11_charge 64 = .ok (.getfield 18, 3) := by decide +kernel
theorem dX11_charge_67 : decode cX11_charge 67 = .ok (.getfield 146, 3) := by decide +kernel
theorem dX11_charge_70 : decode cX11_charge 70 = .ok (.aload_n 0, 1) := by decide +kernel
theorem dX11_charge_71 : decode cX11_charge 71 = .ok (.getfield 39, 3) := by decide +kernel
theorem dX11_charge_74 : decode cX11_charge 74 = .ok (.getfield 184, 3) := by decide +kernel
theorem dX11_charge_77 : decode cX11_charge 77 = .ok (.invokevirtual 185, 3) := by decide +kernel
theorem dX11_charge_80 : decode cX11_charge 80 = .ok (.aload_n 0, 1) := by decide +kernel
theorem dX11_charge_81 : decode cX11_charge 81 = .ok (.getfield 79, 3) := by decide +kernel
theorem dX11_charge_84 : decode cX11_charge 84 = .ok (.iload_n 2, 1) := by decide +kernel
theorem dX11_charge_85 : decode cX11_charge 85 = .ok (.aload_n 0, 1) := by decide +kernel
theorem dX11_charge_86 : decode cX11_charge 86 = .ok (.getfield 18, 3) := by decide +kernel
theorem dX11_charge_89 : decode cX11_charge 89 = .ok (.getfield 181, 3) := by decide +kernel
theorem dX11_charge_92 : decode cX11_charge 92 = .ok (.aload_n 0, 1) := by decide +kernel
theorem dX11_charge_93 : decode cX11_charge 93 = .ok (.getfield 39, 3) := by decide +kernel
theorem dX11_charge_96 : decode cX11_charge 96 = .ok (.getfield 189, 3) := by decide +kernel
theorem dX11_charge_99 : decode cX11_charge 99 = .ok (.invokevirtual 185, 3) := by decide +kernel
theorem dX11_charge_102 : decode cX11_charge 102 = .ok (.aload_n 0, 1) := by decide +kernel
theorem dX11_charge_103 : decode cX11_charge 103 = .ok (.getfield 39, 3) := by decide +kernel
theorem dX11_charge_106 : decode cX11_charge 106 = .ok (.dup, 1) := by decide +kernel
theorem dX11_charge_107 : decode cX11_charge 107 = .ok (.getfield 192, 3) := by decide +kernel
theorem dX11_charge_110 : decode cX11_charge 110 = .ok (.iload_n 1, 1) := by decide +kernel
theorem dX11_charge_111 : decode cX11_charge 111 = .ok (.iadd, 1) := by decide +kernel
theorem dX11_charge_112 : decode cX11_charge 112 = .ok (.putfield 192, 3) := by decide +kernel
theorem dX11_charge_115 : decode cX11_charge 115 = .ok (.aload_n 0, 1) := by decide +kernel
theorem dX11_charge_116 : decode cX11_charge 116 = .ok (.getfield 39, 3) := by decide +kernel
theorem dX11_charge_119 : decode cX11_charge 119 = .ok (.dup, 1) := by decide +kernel
theorem dX11_charge_120 : decode cX11_charge 120 = .ok (.getfield 195, 3) := by decide +kernel
theorem dX11_charge_123 : decode cX11_charge 123 = .ok (.iload_n 2, 1) := by decide +kernel
theorem dX11_charge_124 : decode cX11_charge 124 = .ok (.iadd, 1) := by decide +kernel
theorem dX11_charge_125 : decode cX11_charge 125 = .ok (.putfield 195, 3) := by decide +kernel
theorem dX11_charge_128 : decode cX11_charge 128 = .ok (.iconst 1, 1) := by decide +kernel
theorem dX11_charge_129 : decode cX11_charge 129 = .ok (.ireturn, 1) := by decide +kernel
theorem dX11_blow_0 : decode cX11_blow 0 = .ok (.iload_n 1, 1) := by decide +kernel
theorem dX11_blow_1 : decode cX11_blow 1 = .ok (.iconst 0, 1) := by decide +kernel
theorem dX11_blow_2 : decode cX11_blow 2 = .ok (.sipush 2000, 3) := by decide +kernel
theorem dX11_blow_5 : decode cX11_blow 5 = .ok (.invokestatic 92, 3) := by decide +kernel
theorem dX11_blow_8 : decode cX11_blow 8 = .ok (.ifCond .eq 18, 3) := by decide +kernel
theorem dX11_blow_11 : decode cX11_blow 11 = .ok (.aload_n 0, 1) := by decide +kernel
theorem dX11_blow_12 : decode cX11_blow 12 = .ok (.getfield 39, 3) := by decide +kernel
theorem dX11_blow_15 : decode cX11_blow 15 = .ok (.getfield 198, 3) := by decide +kernel
theorem dX11_blow_18 : decode cX11_blow 18 = .ok (.iload_n 1, 1) := by decide +kernel
theorem dX11_blow_19 : decode cX11_blow 19 = .ok (.iadd, 1) := by decide +kernel
theorem dX11_blow_20 : decode cX11_blow 20 = .ok (.sipush 20000, 3) := by decide +kernel
theorem dX11_blow_23 : decode cX11_blow 23 = .ok (.if_icmp .le 5, 3) := by decide +kernel
theorem dX11_blow_26 : decode cX11_blow 26 = .ok (.iconst (-1), 1) := by decide +kernel
theorem dX11_blow_27 : decode cX11_blow 27 = .ok (.ireturn, 1) := by decide +kernel
theorem dX11_blow_28 : decode cX11_blow 28 = .ok (.iconst 0, 1) := by decide +kernel
theorem dX11_blow_29 : decode cX11_blow 29 = .ok (.istore_n 2, 1) := by decide +kernel
theorem dX11_blow_30 : decode cX11_blow 30 = .ok (.iload_n 2, 1) := by decide +kernel
theorem dX11_blow_31 : decode cX11_blow 31 = .ok (.iload_n 1, 1) := by decide +kernel
theorem dX11_blow_32 : decode cX11_blow 32 = .ok (.if_icmp .ge 24, 3) := by decide +kernel
theorem dX11_blow_35 : decode cX11_blow 35 = .ok (.aload_n 0, 1) := by decide +kernel
theorem dX11_blow_36 : decode cX11_blow 36 = .ok (.getfield 39, 3) := by decide +kernel
theorem dX11_blow_39 : decode cX11_blow 39 = .ok (.aload_n 0, 1) := by decide +kernel
theorem dX11_blow_40 : decode cX11_blow 40 = .ok (.getfield 32, 3) := by decide +kernel
theorem dX11_blow_43 : decode cX11_blow 43 = .ok (.aload_n 0, 1) := by decide +kernel
theorem dX11_blow_44 : decode cX11_blow 44 = .ok (.getfield 79, 3) := by decide +kernel
theorem dX11_blow_47 : decode cX11_blow 47 = .ok (.invokevirtual 201, 3) := by decide +kernel
theorem dX11_blow_50 : decode cX11_blow 50 = .ok (.iinc 2 1, 3) := by decide +kernel
theorem dX11_blow_53 : decode cX11_blow 53 = .ok (.goto (-23), 3) := by decide +kernel
theorem dX11_blow_56 : decode cX11_blow 56 = .ok (.aload_n 0, 1) := by decide +kernel
theorem dX11_blow_57 : decode cX11_blow 57 = .ok (.getfield 39, 3) := by decide +kernel
theorem dX11_blow_60 : decode cX11_blow 60 = .ok (.getfield 205, 3) := by decide +kernel
theorem dX11_blow_63 : decode cX11_blow 63 = .ok (.ireturn, 1) := by decide +kernel
theorem dX11_furnace_0 : decode cX11_furnace 0 = .ok (.iload_n 1, 1) := by decide +kernel
theorem dX11_furnace_1 : decode cX11_furnace 1 = .ok (.tableswitch 126 0 8 #[51, 59, 67, 75, 83, 91, 102, 110, 118], 51) := by decide +kernel
theorem dX11_furnace_52 : decode cX11_furnace 52 = .ok (.aload_n 0, 1) := by decide +kernel
theorem dX11_furnace_53 : decode cX11_furnace 53 = .ok (.getfield 39, 3) := by decide +kernel
theorem dX11_furnace_56 : decode cX11_furnace 56 = .ok (.getfield 205, 3) := by decide +kernel
theorem dX11_furnace_59 : decode cX11_furnace 59 = .ok (.ireturn, 1) := by decide +kernel
theorem dX11_furnace_60 : decode cX11_furnace 60 = .ok (.aload_n 0, 1) := by decide +kernel
theorem dX11_furnace_61 : decode cX11_furnace 61 = .ok (.getfield 39, 3) := by decide +kernel
theorem dX11_furnace_64 : decode cX11_furnace 64 = .ok (.getfield 208, 3) := by decide +kernel
theorem dX11_furnace_67 : decode cX11_furnace 67 = .ok (.ireturn, 1) := by decide +kernel
theorem dX11_furnace_68 : decode cX11_furnace 68 = .ok (.aload_n 0, 1) := by decide +kernel
theorem dX11_furnace_69 : decode cX11_furnace 69 = .ok (.getfield 39, 3) := by decide +kernel
theorem dX11_furnace_72 : decode cX11_furnace 72 = .ok (.getfield 211, 3) := by decide +kernel
theorem dX11_furnace_75 : decode cX11_furnace 75 = .ok (.ireturn, 1) := by decide +kernel
theorem dX11_furnace_76 : decode cX11_furnace 76 = .ok (.aload_n 0, 1) := by decide +kernel
theorem dX11_furnace_77 : decode cX11_furnace 77 = .ok (.getfield 39, 3) := by decide +kernel
theorem dX11_furnace_80 : decode cX11_furnace 80 = .ok (.getfield 192, 3) := by decide +kernel
theorem dX11_furnace_83 : decode cX11_furnace 83 = .ok (.ireturn, 1) := by decide +kernel
theorem dX11_furnace_84 : decode cX11_furnace 84 = .ok (.aload_n 0, 1) := by decide +kernel
theorem dX11_furnace_85 : decode cX11_furnace 85 = .ok (.getfield 39, 3) := by decide +kernel
theorem dX11_furnace_88 : decode cX11_furnace 88 = .ok (.getfield 195, 3) := by decide +kernel
theorem dX11_furnace_91 : decode cX11_furnace 91 = .ok (.ireturn, 1) := by decide +kernel
theorem dX11_furnace_92 : decode cX11_furnace 92 = .ok (.aload_n 0, 1) := by decide +kernel
theorem dX11_furnace_93 : decode cX11_furnace 93 = .ok (.getfield 39, 3) := by decide +kernel
theorem dX11_furnace_96 : decode cX11_furnace 96 = .ok (.getfield 214, 3) := by decide +kernel
theorem dX11_furnace_99 : decode cX11_furnace 99 = .ok (.invokestatic 177, 3) := by decide +kernel
theorem dX11_furnace_102 : decode cX11_furnace 102 = .ok (.ireturn, 1) := by decide +kernel
theorem dX11_furnace_103 : decode cX11_furnace 103 = .ok (.aload_n 0, 1) := by decide +kernel
theorem dX11_furnace_104 : decode cX11_furnace 104 = .ok (.getfield 39, 3) := by decide +kernel
theorem dX11_furnace_107 : decode cX11_furnace 107 = .ok (.getfield 198, 3) := by decide +kernel
theorem dX11_furnace_110 : decode cX11_furnace 110 = .ok (.ireturn, 1) := by decide +kernel
theorem dX11_furnace_111 : decode cX11_furnace 111 = .ok (.aload_n 0, 1) := by decide +kernel
theorem dX11_furnace_112 : decode cX11_furnace 112 = .ok (.getfield 39, 3) := by decide +kernel
theorem dX11_furnace_115 : decode cX11_furnace 115 = .ok (.getfield 217, 3) := by decide +kernel
theorem dX11_furnace_118 : decode cX11_furnace 118 = .ok (.ireturn, 1) := by decide +kernel
theorem dX11_furnace_119 : decode cX11_furnace 119 = .ok (.aload_n 0, 1) := by decide +kernel
theorem dX11_furnace_120 : decode cX11_furnace 120 = .ok (.getfield 39, 3) := by decide +kernel
theorem dX11_furnace_123 : decode cX11_furnace 123 = .ok (.getfield 220, 3) := by decide +kernel
theorem dX11_furnace_126 : decode cX11_furnace 126 = .ok (.ireturn, 1) := by decide +kernel
theorem dX11_furnace_127 : decode cX11_furnace 127 = .ok (.iconst (-1), 1) := by decide +kernel
theorem dX11_furnace_128 : decode cX11_furnace 128 = .ok (.ireturn, 1) := by decide +kernel
theorem dX11_draw_0 : decode cX11_draw 0 = .ok (.aload_n 0, 1) := by decide +kernel
theorem dX11_draw_1 : decode cX11_draw 1 = .ok (.getfield 223, 3) := by decide +kernel
theorem dX11_draw_4 : decode cX11_draw 4 = .ok (.aload_n 0, 1) := by decide +kernel
theorem dX11_draw_5 : decode cX11_draw 5 = .ok (.getfield 45, 3) := by decide +kernel
theorem dX11_draw_8 : decode cX11_draw 8 = .ok (.arraylength, 1) := by decide +kernel
theorem dX11_draw_9 : decode cX11_draw 9 = .ok (.if_icmp .ge 16, 3) := by decide +kernel
theorem dX11_draw_12 : decode cX11_draw 12 = .ok (.aload_n 0, 1) := by decide +kernel
theorem dX11_draw_13 : decode cX11_draw 13 = .ok (.getfield 39, 3) := by decide +kernel
theorem dX11_draw_16 : decode cX11_draw 16 = .ok (.getfield 214, 3) := by decide +kernel
theorem dX11_draw_19 : decode cX11_draw 19 = .ok (.invokestatic 177, 3) := by decide +kernel
theorem dX11_draw_22 : decode cX11_draw 22 = .ok (.ifCond .ne 5, 3) := by decide +kernel
theorem dX11_draw_25 : decode cX11_draw 25 = .ok (.iconst (-1), 1) := by decide +kernel
theorem dX11_draw_26 : decode cX11_draw 26 = .ok (.ireturn, 1) := by decide +kernel
theorem dX11_draw_27 : decode cX11_draw 27 = .ok (.new 43, 3) := by decide +kernel
theorem dX11_draw_30 : decode cX11_draw 30 = .ok (.dup, 1) := by decide +kernel
theorem dX11_draw_31 : decode cX11_draw 31 = .ok (.aload_n 0, 1) := by decide +kernel
theorem dX11_draw_32 : decode cX11_draw 32 = .ok (.getfield 39, 3) := by decide +kernel
theorem dX11_draw_35 : decode cX11_draw 35 = .ok (.invokevirtual 226, 3) := by decide +kernel
theorem dX11_draw_38 : decode cX11_draw 38 = .ok (.aload_n 0, 1) := by decide +kernel
theorem dX11_draw_39 : decode cX11_draw 39 = .ok (.getfield 110, 3) := by decide +kernel
theorem dX11_draw_42 : decode cX11_draw 42 = .ok (.invokespecial 229, 3) := by decide +kernel
theorem dX11_draw_45 : decode cX11_draw 45 = .ok (.astore_n 1, 1) := by decide +kernel
theorem dX11_draw_46 : decode cX11_draw 46 = .ok (.aload_n 1, 1) := by decide +kernel
theorem dX11_draw_47 : decode cX11_draw 47 = .ok (.aload_n 0, 1) := by decide +kernel
theorem dX11_draw_48 : decode cX11_draw 48 = .ok (.iconst 0, 1) := by decide +kernel
theorem dX11_draw_49 : decode cX11_draw 49 = .ok (.invokevirtual 232, 3) := by decide +kernel
theorem dX11_draw_52 : decode cX11_draw 52 = .ok (.aload_n 0, 1) := by decide +kernel
theorem dX11_draw_53 : decode cX11_draw 53 = .ok (.iconst 1, 1) := by decide +kernel
theorem dX11_draw_54 : decode cX11_draw 54 = .ok (.invokevirtual 232, 3) := by decide +kernel
theorem dX11_draw_57 : decode cX11_draw 57 = .ok (.invokevirtual 236, 3) := by decide +kernel
theorem dX11_draw_60 : decode cX11_draw 60 = .ok (.aload_n 0, 1) := by decide +kernel
theorem dX11_draw_61 : decode cX11_draw 61 = .ok (.getfield 39, 3) := by decide +kernel
theorem dX11_draw_64 : decode cX11_draw 64 = .ok (.getfield 214, 3) := by decide +kernel
theorem dX11_draw_67 : decode cX11_draw 67 = .ok (.iconst 0, 1) := by decide +kernel
theorem dX11_draw_68 : decode cX11_draw 68 = .ok (.aload_n 1, 1) := by decide +kernel
theorem dX11_draw_69 : decode cX11_draw 69 = .ok (.getfield 239, 3) := by decide +kernel
theorem dX11_draw_72 : decode cX11_draw 72 = .ok (.iconst 0, 1) := by decide +kernel
theorem dX11_draw_73 : decode cX11_draw 73 = .ok (.bipush 12, 2) := by decide +kernel
theorem dX11_draw_75 : decode cX11_draw 75 = .ok (.invokestatic 240, 3) := by decide +kernel
theorem dX11_draw_78 : decode cX11_draw 78 = .ok (.aload_n 0, 1) := by decide +kernel
theorem dX11_draw_79 : decode cX11_draw 79 = .ok (.getfield 79, 3) := by decide +kernel
theorem dX11_draw_82 : decode cX11_draw 82 = .ok (.aload_n 0, 1) := by decide +kernel
theorem dX11_draw_83 : decode cX11_draw 83 = .ok (.getfield 39, 3) := by decide +kernel
theorem dX11_draw_86 : decode cX11_draw 86 = .ok (.getfield 246, 3) := by decide +kernel
theorem dX11_draw_89 : decode cX11_draw 89 = .ok (.aload_n 0, 1) := by decide +kernel
theorem dX11_draw_90 : decode cX11_draw 90 = .ok (.getfield 39, 3) := by decide +kernel
theorem dX11_draw_93 : decode cX11_draw 93 = .ok (.getfield 189, 3) := by decide +kernel
theorem dX11_draw_96 : decode cX11_draw 96 = .ok (.aload_n 1, 1) := by decide +kernel
theorem dX11_draw_97 : decode cX11_draw 97 = .ok (.getfield 249, 3) := by decide +kernel
theorem dX11_draw_100 : decode cX11_draw 100 = .ok (.invokevirtual 185, 3) := by decide +kernel
theorem dX11_draw_103 : decode cX11_draw 103 = .ok (.aload_n 0, 1) := by decide +kernel
theorem dX11_draw_104 : decode cX11_draw 104 = .ok (.dup, 1) := by decide +kernel
theorem dX11_draw_105 : decode cX11_draw 105 = .ok (.getfield 250, 3) := by decide +kernel
theorem dX11_draw_108 : decode cX11_draw 108 = .ok (.aload_n 0, 1) := by decide +kernel
theorem dX11_draw_109 : decode cX11_draw 109 = .ok (.getfield 39, 3) := by decide +kernel
theorem dX11_draw_112 : decode cX11_draw 112 = .ok (.getfield 192, 3) := by decide +kernel
theorem dX11_draw_115 : decode cX11_draw 115 = .ok (.iadd, 1) := by decide +kernel
theorem dX11_draw_116 : decode cX11_draw 116 = .ok (.putfield 250, 3) := by decide +kernel
theorem dX11_draw_119 : decode cX11_draw 119 = .ok (.aload_n 0, 1) := by decide +kernel
theorem dX11_draw_120 : decode cX11_draw 120 = .ok (.getfield 39, 3) := by decide +kernel
theorem dX11_draw_123 : decode cX11_draw 123 = .ok (.invokevirtual 253, 3) := by decide +kernel
theorem dX11_draw_126 : decode cX11_draw 126 = .ok (.aload_n 0, 1) := by decide +kernel
theorem dX11_draw_127 : decode cX11_draw 127 = .ok (.getfield 45, 3) := by decide +kernel
theorem dX11_draw_130 : decode cX11_draw 130 = .ok (.aload_n 0, 1) := by decide +kernel
theorem dX11_draw_131 : decode cX11_draw 131 = .ok (.getfield 223, 3) := by decide +kernel
theorem dX11_draw_134 : decode cX11_draw 134 = .ok (.aload_n 1, 1) := by decide +kernel
theorem dX11_draw_135 : decode cX11_draw 135 = .ok (.aastore, 1) := by decide +kernel
theorem dX11_draw_136 : decode cX11_draw 136 = .ok (.aload_n 0, 1) := by decide +kernel
theorem dX11_draw_137 : decode cX11_draw 137 = .ok (.dup, 1) := by decide +kernel
theorem dX11_draw_138 : decode cX11_draw 138 = .ok (.getfield 223, 3) := by decide +kernel
theorem dX11_draw_141 : decode cX11_draw 141 = .ok (.dup_x1, 1) := by decide +kernel
theorem dX11_draw_142 : decode cX11_draw 142 = .ok (.iconst 1, 1) := by decide +kernel
theorem dX11_draw_143 : decode cX11_draw 143 = .ok (.iadd, 1) := by decide +kernel
theorem dX11_draw_144 : decode cX11_draw 144 = .ok (.putfield 223, 3) := by decide +kernel
theorem dX11_draw_147 : decode cX11_draw 147 = .ok (.ireturn, 1) := by decide +kernel
theorem dX11_ironInBloom_0 : decode cX11_ironInBloom 0 = .ok (.lconst 0, 1) := by decide +kernel
theorem dX11_ironInBloom_1 : decode cX11_ironInBloom 1 = .ok (.lstore_n 2, 1) := by decide +kernel
theorem dX11_ironInBloom_2 : decode cX11_ironInBloom 2 = .ok (.iconst 0, 1) := by decide +kernel
theorem dX11_ironInBloom_3 : decode cX11_ironInBloom 3 = .ok (.istore 4, 2) := by decide +kernel
theorem dX11_ironInBloom_5 : decode cX11_ironInBloom 5 = .ok (.iload 4, 2) := by decide +kernel
theorem dX11_ironInBloom_7 : decode cX11_ironInBloom 7 = .ok (.aload_n 0, 1) := by decide +kernel
theorem dX11_ironInBloom_8 : decode cX11_ironInBloom 8 = .ok (.getfield 87, 3) := by decide +kernel
theorem dX11_ironInBloom_11 : decode cX11_ironInBloom 11 = .ok (.if_icmp .ge 57, 3) := by decide +kernel
theorem dX11_ironInBloom_14 : decode cX11_ironInBloom 14 = .ok (.aload_n 0, 1) := by decide +kernel
theorem dX11_ironInBloom_15 : decode cX11_ironInBloom 15 = .ok (.iload 4, 2) := by decide +kernel
theorem dX11_ironInBloom_17 : decode cX11_ironInBloom 17 = .ok (.invokevirtual 99, 3) := by decide +kernel
theorem dX11_ironInBloom_20 : decode cX11_ironInBloom 20 = .ok (.astore 5, 2) := by decide +kernel
theorem dX11_ironInBloom_22 : decode cX11_ironInBloom 22 = .ok (.aload 5, 2) := by decide +kernel
theorem dX11_ironInBloom_24 : decode cX11_ironInBloom 24 = .ok (.ifnull 38, 3) := by decide +kernel
theorem dX11_ironInBloom_27 : decode cX11_ironInBloom 27 = .ok (.lload_n 2, 1) := by decide +kernel
theorem dX11_ironInBloom_28 : decode cX11_ironInBloom 28 = .ok (.aload_n 0, 1) := by decide +kernel
theorem dX11_ironInBloom_29 : decode cX11_ironInBloom 29 = .ok (.getfield 39, 3) := by decide +kernel
theorem dX11_ironInBloom_32 : decode cX11_ironInBloom 32 = .ok (.getfield 214, 3) := by decide +kernel
theorem dX11_ironInBloom_35 : decode cX11_ironInBloom 35 = .ok (.iload 4, 2) := by decide +kernel
theorem dX11_ironInBloom_37 : decode cX11_ironInBloom 37 = .ok (.invokestatic 148, 3) := by decide +kernel
theorem dX11_ironInBloom_40 : decode cX11_ironInBloom 40 = .ok (.i2l, 1) := by decide +kernel
theorem dX11_ironInBloom_41 : decode cX11_ironInBloom 41 = .ok (.iload_n 1, 1) := by decide +kernel
theorem dX11_ironInBloom_42 : decode cX11_ironInBloom 42 = .ok (.ifCond .eq 11, 3) := by decide +kernel
theorem dX11_ironInBloom_45 : decode cX11_ironInBloom 45 = .ok (.aload 5, 2) := by decide +kernel
theorem dX11_ironInBloom_47 : decode cX11_ironInBloom 47 = .ok (.getfield 143, 3) := by decide +kernel
theorem dX11_ironInBloom_50 : decode cX11_ironInBloom 50 = .ok (.goto 8, 3) := by decide +kernel
theorem dX11_ironInBloom_53 : decode cX11_ironInBloom 53 = .ok (.aload 5, 2) := by decide +kernel
theorem dX11_ironInBloom_55 : decode cX11_ironInBloom 55 = .ok (.getfield 140, 3) := by decide +kernel
theorem dX11_ironInBloom_58 : decode cX11_ironInBloom 58 = .ok (.i2l, 1) := by decide +kernel
theorem dX11_ironInBloom_59 : decode cX11_ironInBloom 59 = .ok (.lmul, 1) := by decide +kernel
theorem dX11_ironInBloom_60 : decode cX11_ironInBloom 60 = .ok (.ladd, 1) := by decide +kernel
theorem dX11_ironInBloom_61 : decode cX11_ironInBloom 61 = .ok (.lstore_n 2, 1) := by decide +kernel
theorem dX11_ironInBloom_62 : decode cX11_ironInBloom 62 = .ok (.iinc 4 1, 3) := by decide +kernel
theorem dX11_ironInBloom_65 : decode cX11_ironInBloom 65 = .ok (.goto (-60), 3) := by decide +kernel
theorem dX11_ironInBloom_68 : decode cX11_ironInBloom 68 = .ok (.iload_n 1, 1) := by decide +kernel
theorem dX11_ironInBloom_69 : decode cX11_ironInBloom 69 = .ok (.ifCond .eq 13, 3) := by decide +kernel
theorem dX11_ironInBloom_72 : decode cX11_ironInBloom 72 = .ok (.lload_n 2, 1) := by decide +kernel
theorem dX11_ironInBloom_73 : decode cX11_ironInBloom 73 = .ok (.ldc2_w 256, 3) := by decide +kernel
theorem dX11_ironInBloom_76 : decode cX11_ironInBloom 76 = .ok (.ladd, 1) := by decide +kernel
theorem dX11_ironInBloom_77 : decode cX11_ironInBloom 77 = .ok (.lconst 1, 1) := by decide +kernel
theorem dX11_ironInBloom_78 : decode cX11_ironInBloom 78 = .ok (.lsub, 1) := by decide +kernel
theorem dX11_ironInBloom_79 : decode cX11_ironInBloom 79 = .ok (.goto 4, 3) := by decide +kernel
theorem dX11_ironInBloom_82 : decode cX11_ironInBloom 82 = .ok (.lload_n 2, 1) := by decide +kernel
theorem dX11_ironInBloom_83 : decode cX11_ironInBloom 83 = .ok (.ldc2_w 256, 3) := by decide +kernel
theorem dX11_ironInBloom_86 : decode cX11_ironInBloom 86 = .ok (.ldiv, 1) := by decide +kernel
theorem dX11_ironInBloom_87 : decode cX11_ironInBloom 87 = .ok (.l2i, 1) := by decide +kernel
theorem dX11_ironInBloom_88 : decode cX11_ironInBloom 88 = .ok (.ireturn, 1) := by decide +kernel
theorem dX11_forge_0 : decode cX11_forge 0 = .ok (.aload_n 0, 1) := by decide +kernel
theorem dX11_forge_1 : decode cX11_forge 1 = .ok (.iload_n 1, 1) := by decide +kernel
theorem dX11_forge_2 : decode cX11_forge 2 = .ok (.invokevirtual 258, 3) := by decide +kernel
theorem dX11_forge_5 : decode cX11_forge 5 = .ok (.astore_n 3, 1) := by decide +kernel
theorem dX11_forge_6 : decode cX11_forge 6 = .ok (.aload_n 3, 1) := by decide +kernel
theorem dX11_forge_7 : decode cX11_forge 7 = .ok (.ifnull 24, 3) := by decide +kernel
theorem dX11_forge_10 : decode cX11_forge 10 = .ok (.iload_n 2, 1) := by decide +kernel
theorem dX11_forge_11 : decode cX11_forge 11 = .ok (.iconst 1, 1) := by decide +kernel
theorem dX11_forge_12 : decode cX11_forge 12 = .ok (.bipush 9, 2) := by decide +kernel
theorem dX11_forge_14 : decode cX11_forge 14 = .ok (.invokestatic 92, 3) := by decide +kernel
theorem dX11_forge_17 : decode cX11_forge 17 = .ok (.ifCond .eq 14, 3) := by decide +kernel
theorem dX11_forge_20 : decode cX11_forge 20 = .ok (.aload_n 3, 1) := by decide +kernel
theorem dX11_forge_21 : decode cX11_forge 21 = .ok (.getfield 262, 3) := by decide +kernel
theorem dX11_forge_24 : decode cX11_forge 24 = .ok (.iload_n 2, 1) := by decide +kernel
theorem dX11_forge_25 : decode cX11_forge 25 = .ok (.iadd, 1) := by decide +kernel
theorem dX11_forge_26 : decode cX11_forge 26 = .ok (.bipush 9, 2) := by decide +kernel
theorem dX11_forge_28 : decode cX11_forge 28 = .ok (.if_icmp .le 5, 3) := by decide +kernel
theorem dX11_forge_31 : decode cX11_forge 31 = .ok (.iconst (-1), 1) := by decide +kernel
theorem dX11_forge_32 : decode cX11_forge 32 = .ok (.ireturn, 1) := by decide +kernel
theorem dX11_forge_33 : decode cX11_forge 33 = .ok (.iconst 0, 1) := by decide +kernel
theorem dX11_forge_34 : decode cX11_forge 34 = .ok (.istore 4, 2) := by decide +kernel
theorem dX11_forge_36 : decode cX11_forge 36 = .ok (.iload 4, 2) := by decide +kernel
theorem dX11_forge_38 : decode cX11_forge 38 = .ok (.iload_n 2, 1) := by decide +kernel
theorem dX11_forge_39 : decode cX11_forge 39 = .ok (.if_icmp .ge 13, 3) := by decide +kernel
theorem dX11_forge_42 : decode cX11_forge 42 = .ok (.aload_n 3, 1) := by decide +kernel
theorem dX11_forge_43 : decode cX11_forge 43 = .ok (.invokevirtual 265, 3) := by decide +kernel
theorem dX11_forge_46 : decode cX11_forge 46 = .ok (.iinc 4 1, 3) := by decide +kernel
theorem dX11_forge_49 : decode cX11_forge 49 = .ok (.goto (-13), 3) := by decide +kernel
theorem dX11_forge_52 : decode cX11_forge 52 = .ok (.aload_n 3, 1) := by decide +kernel
theorem dX11_forge_53 : decode cX11_forge 53 = .ok (.invokevirtual 268, 3) := by decide +kernel
theorem dX11_forge_56 : decode cX11_forge 56 = .ok (.ireturn, 1) := by decide +kernel
theorem dX11_bar_0 : decode cX11_bar 0 = .ok (.aload_n 0, 1) := by decide +kernel
theorem dX11_bar_1 : decode cX11_bar 1 = .ok (.iload_n 1, 1) := by decide +kernel
theorem dX11_bar_2 : decode cX11_bar 2 = .ok (.invokevirtual 258, 3) := by decide +kernel
theorem dX11_bar_5 : decode cX11_bar 5 = .ok (.astore_n 3, 1) := by decide +kernel
theorem dX11_bar_6 : decode cX11_bar 6 = .ok (.aload_n 3, 1) := by decide +kernel
theorem dX11_bar_7 : decode cX11_bar 7 = .ok (.ifnonnull 5, 3) := by decide +kernel
theorem dX11_bar_10 : decode cX11_bar 10 = .ok (.iconst (-1), 1) := by decide +kernel
theorem dX11_bar_11 : decode cX11_bar 11 = .ok (.ireturn, 1) := by decide +kernel
theorem dX11_bar_12 : decode cX11_bar 12 = .ok (.iload_n 2, 1) := by decide +kernel
theorem dX11_bar_13 : decode cX11_bar 13 = .ok (.tableswitch 84 0 6 #[43, 48, 53, 58, 63, 68, 76], 43) := by decide +kernel
theorem dX11_bar_56 : decode cX11_bar 56 = .ok (.aload_n 3, 1) := by decide +kernel
theorem dX11_bar_57 : decode cX11_bar 57 = .ok (.getfield 271, 3) := by decide +kernel
theorem dX11_bar_60 : decode cX11_bar 60 = .ok (.ireturn, 1) := by decide +kernel
theorem dX11_bar_61 : decode cX11_bar 61 = .ok (.aload_n 3, 1) := by decide +kernel
theorem dX11_bar_62 : decode cX11_bar 62 = .ok (.getfield 274, 3) := by decide +kernel
theorem dX11_bar_65 : decode cX11_bar 65 = .ok (.ireturn, 1) := by decide +kernel
theorem dX11_bar_66 : decode cX11_bar 66 = .ok (.aload_n 3, 1) := by decide +kernel
theorem dX11_bar_67 : decode cX11_bar 67 = .ok (.invokevirtual 268, 3) := by decide +kernel
theorem dX11_bar_70 : decode cX11_bar 70 = .ok (.ireturn, 1) := by decide +kernel
theorem dX11_bar_71 : decode cX11_bar 71 = .ok (.aload_n 3, 1) := by decide +kernel
theorem dX11_bar_72 : decode cX11_bar 72 = .ok (.getfield 262, 3) := by decide +kernel
theorem dX11_bar_75 : decode cX11_bar 75 = .ok (.ireturn, 1) := by decide +kernel
theorem dX11_bar_76 : decode cX11_bar 76 = .ok (.aload_n 3, 1) := by decide +kernel
theorem dX11_bar_77 : decode cX11_bar 77 = .ok (.getfield 277, 3) := by decide +kernel
theorem dX11_bar_80 : decode cX11_bar 80 = .ok (.ireturn, 1) := by decide +kernel
theorem dX11_bar_81 : decode cX11_bar 81 = .ok (.aload_n 3, 1) := by decide +kernel
theorem dX11_bar_82 : decode cX11_bar 82 = .ok (.getfield 239, 3) := by decide +kernel
theorem dX11_bar_85 : decode cX11_bar 85 = .ok (.invokestatic 177, 3) := by decide +kernel
theorem dX11_bar_88 : decode cX11_bar 88 = .ok (.ireturn, 1) := by decide +kernel
theorem dX11_bar_89 : decode cX11_bar 89 = .ok (.aload_n 3, 1) := by decide +kernel
theorem dX11_bar_90 : decode cX11_bar 90 = .ok (.getfield 249, 3) := by decide +kernel
theorem dX11_bar_93 : decode cX11_bar 93 = .ok (.invokestatic 177, 3) := by decide +kernel
theorem dX11_bar_96 : decode cX11_bar 96 = .ok (.ireturn, 1) := by decide +kernel
theorem dX11_bar_97 : decode cX11_bar 97 = .ok (.iconst (-1), 1) := by decide +kernel
theorem dX11_bar_98 : decode cX11_bar 98 = .ok (.ireturn, 1) := by decide +kernel
theorem dX11_part_0 : decode cX11_part 0 = .ok (.aload_n 0, 1) := by decide +kernel
theorem dX11_part_1 : decode cX11_part 1 = .ok (.iload_n 1, 1) := by decide +kernel
theorem dX11_part_2 : decode cX11_part 2 = .ok (.invokevirtual 258, 3) := by decide +kernel
theorem dX11_part_5 : decode cX11_part 5 = .ok (.astore_n 3, 1) := by decide +kernel
theorem dX11_part_6 : decode cX11_part 6 = .ok (.aload_n 3, 1) := by decide +kernel
theorem dX11_part_7 : decode cX11_part 7 = .ok (.ifnonnull 7, 3) := by decide +kernel
theorem dX11_part_10 : decode cX11_part 10 = .ok (.iconst 0, 1) := by decide +kernel
theorem dX11_part_11 : decode cX11_part 11 = .ok (.goto 11, 3) := by decide +kernel
theorem dX11_part_14 : decode cX11_part 14 = .ok (.aload_n 3, 1) := by decide +kernel
theorem dX11_part_15 : decode cX11_part 15 = .ok (.getfield 239, 3) := by decide +kernel
theorem dX11_part_18 : decode cX11_part 18 = .ok (.iload_n 2, 1) := by decide +kernel
theorem dX11_part_19 : decode cX11_part 19 = .ok (.invokestatic 148, 3) := by decide +kernel
theorem dX11_part_22 : decode cX11_part 22 = .ok (.ireturn, 1) := by decide +kernel
theorem dX11_burnt_0 : decode cX11_burnt 0 = .ok (.aload_n 0, 1) := by decide +kernel
theorem dX11_burnt_1 : decode cX11_burnt 1 = .ok (.iload_n 1, 1) := by decide +kernel
theorem dX11_burnt_2 : decode cX11_burnt 2 = .ok (.invokevirtual 258, 3) := by decide +kernel
theorem dX11_burnt_5 : decode cX11_burnt 5 = .ok (.astore_n 3, 1) := by decide +kernel
theorem dX11_burnt_6 : decode cX11_burnt 6 = .ok (.aload_n 3, 1) := by decide +kernel
theorem dX11_burnt_7 : decode cX11_burnt 7 = .ok (.ifnonnull 7, 3) := by decide +kernel
theorem dX11_burnt_10 : decode cX11_burnt 10 = .ok (.iconst 0, 1) := by decide +kernel
theorem dX11_burnt_11 : decode cX11_burnt 11 = .ok (.goto 11, 3) := by decide +kernel
theorem dX11_burnt_14 : decode cX11_burnt 14 = .ok (.aload_n 3, 1) := by decide +kernel
theorem dX11_burnt_15 : decode cX11_burnt 15 = .ok (.getfield 249, 3) := by decide +kernel
theorem dX11_burnt_18 : decode cX11_burnt 18 = .ok (.iload_n 2, 1) := by decide +kernel
theorem dX11_burnt_19 : decode cX11_burnt 19 = .ok (.invokestatic 148, 3) := by decide +kernel
theorem dX11_burnt_22 : decode cX11_burnt 22 = .ok (.ireturn, 1) := by decide +kernel
theorem dX11_right_0 : decode cX11_right 0 = .ok (.aload_n 0, 1) := by decide +kernel
theorem dX11_right_1 : decode cX11_right 1 = .ok (.iload_n 1, 1) := by decide +kernel
theorem dX11_right_2 : decode cX11_right 2 = .ok (.invokevirtual 99, 3) := by decide +kernel
theorem dX11_right_5 : decode cX11_right 5 = .ok (.ifnull 35, 3) := by decide +kernel
theorem dX11_right_8 : decode cX11_right 8 = .ok (.iload_n 2, 1) := by decide +kernel
theorem dX11_right_9 : decode cX11_right 9 = .ok (.iconst 0, 1) := by decide +kernel
theorem dX11_right_10 : decode cX11_right 10 = .ok (.bipush 7, 2) := by decide +kernel
theorem dX11_right_12 : decode cX11_right 12 = .ok (.invokestatic 92, 3) := by decide +kernel
theorem dX11_right_15 : decode cX11_right 15 = .ok (.ifCond .eq 25, 3) := by decide +kernel
theorem dX11_right_18 : decode cX11_right 18 = .ok (.iload_n 3, 1) := by decide +kernel
theorem dX11_right_19 : decode cX11_right 19 = .ok (.iconst 0, 1) := by decide +kernel
theorem dX11_right_20 : decode cX11_right 20 = .ok (.bipush 100, 2) := by decide +kernel
theorem dX11_right_22 : decode cX11_right 22 = .ok (.invokestatic 92, 3) := by decide +kernel
theorem dX11_right_25 : decode cX11_right 25 = .ok (.ifCond .eq 15, 3) := by decide +kernel
theorem dX11_right_28 : decode cX11_right 28 = .ok (.iload 4, 2) := by decide +kernel
theorem dX11_right_30 : decode cX11_right 30 = .ok (.iconst 0, 1) := by decide +kernel
theorem dX11_right_31 : decode cX11_right 31 = .ok (.sipush 200, 3) := by decide +kernel
theorem dX11_right_34 : decode cX11_right 34 = .ok (.invokestatic 92, 3) := by decide +kernel
theorem dX11_right_37 : decode cX11_right 37 = .ok (.ifCond .ne 5, 3) := by decide +kernel
theorem dX11_right_40 : decode cX11_right 40 = .ok (.iconst 0, 1) := by decide +kernel
theorem dX11_right_41 : decode cX11_right 41 = .ok (.ireturn, 1) := by decide +kernel
theorem dX11_right_42 : decode cX11_right 42 = .ok (.aload_n 0, 1) := by decide +kernel
theorem dX11_right_43 : decode cX11_right 43 = .ok (.getfield 52, 3) := by decide +kernel
theorem dX11_right_46 : decode cX11_right 46 = .ok (.iload_n 1, 1) := by decide +kernel
theorem dX11_right_47 : decode cX11_right 47 = .ok (.iload_n 2, 1) := by decide +kernel
theorem dX11_right_48 : decode cX11_right 48 = .ok (.iload_n 3, 1) := by decide +kernel
theorem dX11_right_49 : decode cX11_right 49 = .ok (.iload 4, 2) := by decide +kernel
theorem dX11_right_51 : decode cX11_right 51 = .ok (.invokevirtual 280, 3) := by decide +kernel
theorem dX11_right_54 : decode cX11_right 54 = .ok (.ireturn, 1) := by decide +kernel
theorem dX11_pay_0 : decode cX11_pay 0 = .ok (.aload_n 0, 1) := by decide +kernel
theorem dX11_pay_1 : decode cX11_pay 1 = .ok (.iload_n 1, 1) := by decide +kernel
theorem dX11_pay_2 : decode cX11_pay 2 = .ok (.invokevirtual 258, 3) := by decide +kernel
theorem dX11_pay_5 : decode cX11_pay 5 = .ok (.ifnull 36, 3) := by decide +kernel
theorem dX11_pay_8 : decode cX11_pay 8 = .ok (.iload_n 2, 1) := by decide +kernel
theorem dX11_pay_9 : decode cX11_pay 9 = .ok (.iconst 1, 1) := by decide +kernel
theorem dX11_pay_10 : decode cX11_pay 10 = .ok (.ldc_w 284, 3) := by decide +kernel
theorem dX11_pay_13 : decode cX11_pay 13 = .ok (.invokestatic 92, 3) := by decide +kernel
theorem dX11_pay_16 : decode cX11_pay 16 = .ok (.ifCond .eq 25, 3) := by decide +kernel
theorem dX11_pay_19 : decode cX11_pay 19 = .ok (.aload_n 0, 1) := by decide +kernel
theorem dX11_pay_20 : decode cX11_pay 20 = .ok (.getfield 285, 3) := by decide +kernel
theorem dX11_pay_23 : decode cX11_pay 23 = .ok (.aload_n 0, 1) := by decide +kernel
theorem dX11_pay_24 : decode cX11_pay 24 = .ok (.getfield 58, 3) := by decide +kernel
theorem dX11_pay_27 : decode cX11_pay 27 = .ok (.arraylength, 1) := by decide +kernel
theorem dX11_pay_28 : decode cX11_pay 28 = .ok (.if_icmp .ge 13, 3) := by decide +kernel
theorem dX11_pay_31 : decode cX11_pay 31 = .ok (.aload_n 0, 1) := by decide +kernel
theorem dX11_pay_32 : decode cX11_pay 32 = .ok (.getfield 65, 3) := by decide +kernel
theorem dX11_pay_35 : decode cX11_pay 35 = .ok (.invokevirtual 288, 3) := by decide +kernel
theorem dX11_pay_38 : decode cX11_pay 38 = .ok (.ifCond .ne 5, 3) := by decide +kernel
theorem dX11_pay_41 : decode cX11_pay 41 = .ok (.iconst (-1), 1) := by decide +kernel
theorem dX11_pay_42 : decode cX11_pay 42 = .ok (.ireturn, 1) := by decide +kernel
theorem dX11_pay_43 : decode cX11_pay 43 = .ok (.aload_n 0, 1) := by decide +kernel
theorem dX11_pay_44 : decode cX11_pay 44 = .ok (.getfield 58, 3) := by decide +kernel
theorem dX11_pay_47 : decode cX11_pay 47 = .ok (.aload_n 0, 1) := by decide +kernel
theorem dX11_pay_48 : decode cX11_pay 48 = .ok (.getfield 285, 3) := by decide +kernel
theorem dX11_pay_51 : decode cX11_pay 51 = .ok (.new 56, 3) := by decide +kernel
theorem dX11_pay_54 : decode cX11_pay 54 = .ok (.dup, 1) := by decide +kernel
theorem dX11_pay_55 : decode cX11_pay 55 = .ok (.iload_n 1, 1) := by decide +kernel
theorem dX11_pay_56 : decode cX11_pay 56 = .ok (.iload_n 2, 1) := by decide +kernel
theorem dX11_pay_57 : decode cX11_pay 57 = .ok (.aload_n 0, 1) := by decide +kernel
theorem dX11_pay_58 : decode cX11_pay 58 = .ok (.getfield 110, 3) := by decide +kernel
theorem dX11_pay_61 : decode cX11_pay 61 = .ok (.invokespecial 291, 3) := by decide +kernel
theorem dX11_pay_64 : decode cX11_pay 64 = .ok (.aastore, 1) := by decide +kernel
theorem dX11_pay_65 : decode cX11_pay 65 = .ok (.aload_n 0, 1) := by decide +kernel
theorem dX11_pay_66 : decode cX11_pay 66 = .ok (.dup, 1) := by decide +kernel
theorem dX11_pay_67 : decode cX11_pay 67 = .ok (.getfield 285, 3) := by decide +kernel
theorem dX11_pay_70 : decode cX11_pay 70 = .ok (.iconst 1, 1) := by decide +kernel
theorem dX11_pay_71 : decode cX11_pay 71 = .ok (.iadd, 1) := by decide +kernel
theorem dX11_pay_72 : decode cX11_pay 72 = .ok (.putfield 285, 3) := by decide +kernel
theorem dX11_pay_75 : decode cX11_pay 75 = .ok (.aload_n 0, 1) := by decide +kernel
theorem dX11_pay_76 : decode cX11_pay 76 = .ok (.aload_n 0, 1) := by decide +kernel
theorem dX11_pay_77 : decode cX11_pay 77 = .ok (.getfield 285, 3) := by decide +kernel
theorem dX11_pay_80 : decode cX11_pay 80 = .ok (.iconst 1, 1) := by decide +kernel
theorem dX11_pay_81 : decode cX11_pay 81 = .ok (.isub, 1) := by decide +kernel
theorem dX11_pay_82 : decode cX11_pay 82 = .ok (.invokevirtual 292, 3) := by decide +kernel
theorem dX11_pay_85 : decode cX11_pay 85 = .ok (.pop, 1) := by decide +kernel
theorem dX11_pay_86 : decode cX11_pay 86 = .ok (.aload_n 0, 1) := by decide +kernel
theorem dX11_pay_87 : decode cX11_pay 87 = .ok (.getfield 285, 3) := by decide +kernel
theorem dX11_pay_90 : decode cX11_pay 90 = .ok (.iconst 1, 1) := by decide +kernel
theorem dX11_pay_91 : decode cX11_pay 91 = .ok (.isub, 1) := by decide +kernel
theorem dX11_pay_92 : decode cX11_pay 92 = .ok (.ireturn, 1) := by decide +kernel
theorem dX11_again_0 : decode cX11_again 0 = .ok (.iload_n 1, 1) := by decide +kernel
theorem dX11_again_1 : decode cX11_again 1 = .ok (.iconst 0, 1) := by decide +kernel
theorem dX11_again_2 : decode cX11_again 2 = .ok (.aload_n 0, 1) := by decide +kernel
theorem dX11_again_3 : decode cX11_again 3 = .ok (.getfield 285, 3) := by decide +kernel
theorem dX11_again_6 : decode cX11_again 6 = .ok (.iconst 1, 1) := by decide +kernel
theorem dX11_again_7 : decode cX11_again 7 = .ok (.isub, 1) := by decide +kernel
theorem dX11_again_8 : decode cX11_again 8 = .ok (.invokestatic 92, 3) := by decide +kernel
theorem dX11_again_11 : decode cX11_again 11 = .ok (.ifCond .eq 13, 3) := by decide +kernel
theorem dX11_again_14 : decode cX11_again 14 = .ok (.aload_n 0, 1) := by decide +kernel
theorem dX11_again_15 : decode cX11_again 15 = .ok (.getfield 65, 3) := by decide +kernel
theorem dX11_again_18 : decode cX11_again 18 = .ok (.invokevirtual 288, 3) := by decide +kernel
theorem dX11_again_21 : decode cX11_again 21 = .ok (.ifCond .ne 5, 3) := by decide +kernel
theorem dX11_again_24 : decode cX11_again 24 = .ok (.iconst (-1), 1) := by decide +kernel
theorem dX11_again_25 : decode cX11_again 25 = .ok (.ireturn, 1) := by decide +kernel
theorem dX11_again_26 : decode cX11_again 26 = .ok (.aload_n 0, 1) := by decide +kernel
theorem dX11_again_27 : decode cX11_again 27 = .ok (.iload_n 1, 1) := by decide +kernel
theorem dX11_again_28 : decode cX11_again 28 = .ok (.invokevirtual 292, 3) := by decide +kernel
theorem dX11_again_31 : decode cX11_again 31 = .ok (.ireturn, 1) := by decide +kernel
theorem dX11_line_0 : decode cX11_line 0 = .ok (.iload_n 1, 1) := by decide +kernel
theorem dX11_line_1 : decode cX11_line 1 = .ok (.iconst 0, 1) := by decide +kernel
theorem dX11_line_2 : decode cX11_line 2 = .ok (.aload_n 0, 1) := by decide +kernel
theorem dX11_line_3 : decode cX11_line 3 = .ok (.getfield 65, 3) := by decide +kernel
theorem dX11_line_6 : decode cX11_line 6 = .ok (.getfield 295, 3) := by decide +kernel
theorem dX11_line_9 : decode cX11_line 9 = .ok (.iconst 1, 1) := by decide +kernel
theorem dX11_line_10 : decode cX11_line 10 = .ok (.isub, 1) := by decide +kernel
theorem dX11_line_11 : decode cX11_line 11 = .ok (.invokestatic 92, 3) := by decide +kernel
theorem dX11_line_14 : decode cX11_line 14 = .ok (.ifCond .ne 5, 3) := by decide +kernel
theorem dX11_line_17 : decode cX11_line 17 = .ok (.iconst 0, 1) := by decide +kernel
theorem dX11_line_18 : decode cX11_line 18 = .ok (.ireturn, 1) := by decide +kernel
theorem dX11_line_19 : decode cX11_line 19 = .ok (.iload_n 2, 1) := by decide +kernel
theorem dX11_line_20 : decode cX11_line 20 = .ok (.tableswitch 80 0 3 #[32, 44, 56, 68], 32) := by decide +kernel
theorem dX11_line_52 : decode cX11_line 52 = .ok (.aload_n 0, 1) := by decide +kernel
theorem dX11_line_53 : decode cX11_line 53 = .ok (.getfield 65, 3) := by decide +kernel
theorem dX11_line_56 : decode cX11_line 56 = .ok (.getfield 298, 3) := by decide +kernel
theorem dX11_line_59 : decode cX11_line 59 = .ok (.iload_n 1, 1) := by decide +kernel
theorem dX11_line_60 : decode cX11_line 60 = .ok (.invokestatic 148, 3) := by decide +kernel
theorem dX11_line_63 : decode cX11_line 63 = .ok (.ireturn, 1) := by decide +kernel
theorem dX11_line_64 : decode cX11_line 64 = .ok (.aload_n 0, 1) := by decide +kernel
theorem dX11_line_65 : decode cX11_line 65 = .ok (.getfield 65, 3) := by decide +kernel
theorem dX11_line_68 : decode cX11_line 68 = .ok (.getfield 301, 3) := by decide +kernel
theorem dX11_line_71 : decode cX11_line 71 = .ok (.iload_n 1, 1) := by decide +kernel
theorem dX11_line_72 : decode cX11_line 72 = .ok (.invokestatic 148, 3) := by decide +kernel
theorem dX11_line_75 : decode cX11_line 75 = .ok (.ireturn, 1) := by decide +kernel
theorem dX11_line_76 : decode cX11_line 76 = .ok (.aload_n 0, 1) := by decide +kernel
theorem dX11_line_77 : decode cX11_line 77 = .ok (.getfield 65, 3) := by decide +kernel
theorem dX11_line_80 : decode cX11_line 80 = .ok (.getfield 304, 3) := by decide +kernel
theorem dX11_line_83 : decode cX11_line 83 = .ok (.iload_n 1, 1) := by decide +kernel
theorem dX11_line_84 : decode cX11_line 84 = .ok (.invokestatic 148, 3) := by decide +kernel
theorem dX11_line_87 : decode cX11_line 87 = .ok (.ireturn, 1) := by decide +kernel
theorem dX11_line_88 : decode cX11_line 88 = .ok (.aload_n 0, 1) := by decide +kernel
theorem dX11_line_89 : decode cX11_line 89 = .ok (.getfield 65, 3) := by decide +kernel
theorem dX11_line_92 : decode cX11_line 92 = .ok (.getfield 307, 3) := by decide +kernel
theorem dX11_line_95 : decode cX11_line 95 = .ok (.iload_n 1, 1) := by decide +kernel
theorem dX11_line_96 : decode cX11_line 96 = .ok (.invokestatic 148, 3) := by decide +kernel
theorem dX11_line_99 : decode cX11_line 99 = .ok (.ireturn, 1) := by decide +kernel
theorem dX11_line_100 : decode cX11_line 100 = .ok (.iconst 0, 1) := by decide +kernel
theorem dX11_line_101 : decode cX11_line 101 = .ok (.ireturn, 1) := by decide +kernel
theorem dX11_coins_0 : decode cX11_coins 0 = .ok (.aload_n 0, 1) := by decide +kernel
theorem dX11_coins_1 : decode cX11_coins 1 = .ok (.getfield 65, 3) := by decide +kernel
theorem dX11_coins_4 : decode cX11_coins 4 = .ok (.getfield 310, 3) := by decide +kernel
theorem dX11_coins_7 : decode cX11_coins 7 = .ok (.iload_n 1, 1) := by decide +kernel
theorem dX11_coins_8 : decode cX11_coins 8 = .ok (.invokestatic 148, 3) := by decide +kernel
theorem dX11_coins_11 : decode cX11_coins 11 = .ok (.ireturn, 1) := by decide +kernel
theorem dX11_settle_0 : decode cX11_settle 0 = .ok (.iload_n 1, 1) := by decide +kernel
theorem dX11_settle_1 : decode cX11_settle 1 = .ok (.ifCond .lt 21, 3) := by decide +kernel
theorem dX11_settle_4 : decode cX11_settle 4 = .ok (.iload_n 1, 1) := by decide +kernel
theorem dX11_settle_5 : decode cX11_settle 5 = .ok (.aload_n 0, 1) := by decide +kernel
theorem dX11_settle_6 : decode cX11_settle 6 = .ok (.getfield 58, 3) := by decide +kernel
theorem dX11_settle_9 : decode cX11_settle 9 = .ok (.arraylength, 1) := by decide +kernel
theorem dX11_settle_10 : decode cX11_settle 10 = .ok (.if_icmp .ge 12, 3) := by decide +kernel
theorem dX11_settle_13 : decode cX11_settle 13 = .ok (.aload_n 0, 1) := by decide +kernel
theorem dX11_settle_14 : decode cX11_settle 14 = .ok (.getfield 58, 3) := by decide +kernel
theorem dX11_settle_17 : decode cX11_settle 17 = .ok (.iload_n 1, 1) := by decide +kernel
theorem dX11_settle_18 : decode cX11_settle 18 = .ok (.aaload, 1) := by decide +kernel
theorem dX11_settle_19 : decode cX11_settle 19 = .ok (.goto 4, 3) := by decide +kernel
theorem dX11_settle_22 : decode cX11_settle 22 = .ok (.aconst_null, 1) := by decide +kernel
theorem dX11_settle_23 : decode cX11_settle 23 = .ok (.astore_n 2, 1) := by decide +kernel
theorem dX11_settle_24 : decode cX11_settle 24 = .ok (.aload_n 2, 1) := by decide +kernel
theorem dX11_settle_25 : decode cX11_settle 25 = .ok (.ifnonnull 7, 3) := by decide +kernel
theorem dX11_settle_28 : decode cX11_settle 28 = .ok (.aconst_null, 1) := by decide +kernel
theorem dX11_settle_29 : decode cX11_settle 29 = .ok (.goto 11, 3) := by decide +kernel
theorem dX11_settle_32 : decode cX11_settle 32 = .ok (.aload_n 0, 1) := by decide +kernel
theorem dX11_settle_33 : decode cX11_settle 33 = .ok (.aload_n 2, 1) := by decide +kernel
theorem dX11_settle_34 : decode cX11_settle 34 = .ok (.getfield 313, 3) := by decide +kernel
theorem dX11_settle_37 : decode cX11_settle 37 = .ok (.invokevirtual 258, 3) := by decide +kernel
theorem dX11_settle_40 : decode cX11_settle 40 = .ok (.astore_n 3, 1) := by decide +kernel
theorem dX11_settle_41 : decode cX11_settle 41 = .ok (.aload_n 3, 1) := by decide +kernel
theorem dX11_settle_42 : decode cX11_settle 42 = .ok (.ifnonnull 5, 3) := by decide +kernel
theorem dX11_settle_45 : decode cX11_settle 45 = .ok (.iconst 0, 1) := by decide +kernel
theorem dX11_settle_46 : decode cX11_settle 46 = .ok (.ireturn, 1) := by decide +kernel
theorem dX11_settle_47 : decode cX11_settle 47 = .ok (.iconst 0, 1) := by decide +kernel
theorem dX11_settle_48 : decode cX11_settle 48 = .ok (.istore 4, 2) := by decide +kernel
theorem dX11_settle_50 : decode cX11_settle 50 = .ok (.iload 4, 2) := by decide +kernel
theorem dX11_settle_52 : decode cX11_settle 52 = .ok (.bipush 8, 2) := by decide +kernel
theorem dX11_settle_54 : decode cX11_settle 54 = .ok (.if_icmp .ge 30, 3) := by decide +kernel
theorem dX11_settle_57 : decode cX11_settle 57 = .ok (.aload_n 0, 1) := by decide +kernel
theorem dX11_settle_58 : decode cX11_settle 58 = .ok (.getfield 83, 3) := by decide +kernel
theorem dX11_settle_61 : decode cX11_settle 61 = .ok (.iload 4, 2) := by decide +kernel
theorem dX11_settle_63 : decode cX11_settle 63 = .ok (.aload_n 0, 1) := by decide +kernel
theorem dX11_settle_64 : decode cX11_settle 64 = .ok (.getfield 52, 3) := by decide +kernel
theorem dX11_settle_67 : decode cX11_settle 67 = .ok (.iload 4, 2) := by decide +kernel
theorem dX11_settle_69 : decode cX11_settle 69 = .ok (.aload_n 3, 1) := by decide +kernel
theorem dX11_settle_70 : decode cX11_settle 70 = .ok (.aload_n 2, 1) := by decide +kernel
theorem dX11_settle_71 : decode cX11_settle 71 = .ok (.getfield 316, 3) := by decide +kernel
theorem dX11_settle_74 : decode cX11_settle 74 = .ok (.invokevirtual 319, 3) := by decide +kernel
theorem dX11_settle_77 : decode cX11_settle 77 = .ok (.iastore, 1) := by decide +kernel
theorem dX11_settle_78 : decode cX11_settle 78 = .ok (.iinc 4 1, 3) := by decide +kernel
theorem dX11_settle_81 : decode cX11_settle 81 = .ok (.goto (-31), 3) := by decide +kernel
theorem dX11_settle_84 : decode cX11_settle 84 = .ok (.aload_n 0, 1) := by decide +kernel
theorem dX11_settle_85 : decode cX11_settle 85 = .ok (.getfield 79, 3) := by decide +kernel
theorem dX11_settle_88 : decode cX11_settle 88 = .ok (.aload_n 2, 1) := by decide +kernel
theorem dX11_settle_89 : decode cX11_settle 89 = .ok (.getfield 323, 3) := by decide +kernel
theorem dX11_settle_92 : decode cX11_settle 92 = .ok (.aload_n 0, 1) := by decide +kernel
theorem dX11_settle_93 : decode cX11_settle 93 = .ok (.getfield 83, 3) := by decide +kernel
theorem dX11_settle_96 : decode cX11_settle 96 = .ok (.invokevirtual 326, 3) := by decide +kernel
theorem dX11_settle_99 : decode cX11_settle 99 = .ok (.ifCond .ne 14, 3) := by decide +kernel
theorem dX11_settle_102 : decode cX11_settle 102 = .ok (.aload_n 0, 1) := by decide +kernel
theorem dX11_settle_103 : decode cX11_settle 103 = .ok (.getfield 79, 3) := by decide +kernel
theorem dX11_settle_106 : decode cX11_settle 106 = .ok (.aload_n 2, 1) := by decide +kernel
theorem dX11_settle_107 : decode cX11_settle 107 = .ok (.getfield 323, 3) := by decide +kernel
theorem dX11_settle_110 : decode cX11_settle 110 = .ok (.invokevirtual 330, 3) := by decide +kernel
theorem dX11_settle_113 : decode cX11_settle 113 = .ok (.iconst 0, 1) := by decide +kernel
theorem dX11_settle_114 : decode cX11_settle 114 = .ok (.istore 4, 2) := by decide +kernel
theorem dX11_settle_116 : decode cX11_settle 116 = .ok (.iconst 0, 1) := by decide +kernel
theorem dX11_settle_117 : decode cX11_settle 117 = .ok (.istore 5, 2) := by decide +kernel
theorem dX11_settle_119 : decode cX11_settle 119 = .ok (.iload 5, 2) := by decide +kernel
theorem dX11_settle_121 : decode cX11_settle 121 = .ok (.bipush 8, 2) := by decide +kernel
theorem dX11_settle_123 : decode cX11_settle 123 = .ok (.if_icmp .ge 65, 3) := by decide +kernel
theorem dX11_settle_126 : decode cX11_settle 126 = .ok (.aload_n 0, 1) := by decide +kernel
theorem dX11_settle_127 : decode cX11_settle 127 = .ok (.getfield 79, 3) := by decide +kernel
theorem dX11_settle_130 : decode cX11_settle 130 = .ok (.getfield 333, 3) := by decide +kernel
theorem dX11_settle_133 : decode cX11_settle 133 = .ok (.iload 5, 2) := by decide +kernel
theorem dX11_settle_135 : decode cX11_settle 135 = .ok (.iaload, 1) := by decide +kernel
theorem dX11_settle_136 : decode cX11_settle 136 = .ok (.aload_n 2, 1) := by decide +kernel
theorem dX11_settle_137 : decode cX11_settle 137 = .ok (.getfield 336, 3) := by decide +kernel
theorem dX11_settle_140 : decode cX11_settle 140 = .ok (.iload 5, 2) := by decide +kernel
theorem dX11_settle_142 : decode cX11_settle 142 = .ok (.iaload, 1) := by decide +kernel
theorem dX11_settle_143 : decode cX11_settle 143 = .ok (.isub, 1) := by decide +kernel
theorem dX11_settle_144 : decode cX11_settle 144 = .ok (.istore 6, 2) := by decide +kernel
theorem dX11_settle_146 : decode cX11_settle 146 = .ok (.iload 6, 2) := by decide +kernel
theorem dX11_settle_148 : decode cX11_settle 148 = .ok (.ifCond .eq 34, 3) := by decide +kernel
theorem dX11_settle_151 : decode cX11_settle 151 = .ok (.aload_n 0, 1) := by decide +kernel
theorem dX11_settle_152 : decode cX11_settle 152 = .ok (.getfield 65, 3) := by decide +kernel
theorem dX11_settle_155 : decode cX11_settle 155 = .ok (.aload_n 0, 1) := by decide +kernel
theorem dX11_settle_156 : decode cX11_settle 156 = .ok (.getfield 110, 3) := by decide +kernel
theorem dX11_settle_159 : decode cX11_settle 159 = .ok (.iload_n 1, 1) := by decide +kernel
theorem dX11_settle_160 : decode cX11_settle 160 = .ok (.iload 5, 2) := by decide +kernel
theorem dX11_settle_162 : decode cX11_settle 162 = .ok (.iload 6, 2) := by decide +kernel
theorem dX11_settle_164 : decode cX11_settle 164 = .ok (.invokevirtual 337, 3) := by decide +kernel
theorem dX11_settle_167 : decode cX11_settle 167 = .ok (.aload_n 2, 1) := by decide +kernel
theorem dX11_settle_168 : decode cX11_settle 168 = .ok (.getfield 336, 3) := by decide +kernel
theorem dX11_settle_171 : decode cX11_settle 171 = .ok (.iload 5, 2) := by decide +kernel
theorem dX11_settle_173 : decode cX11_settle 173 = .ok (.dup2, 1) := by decide +kernel
theorem dX11_settle_174 : decode cX11_settle 174 = .ok (.iaload, 1) := by decide +kernel
theorem dX11_settle_175 : decode cX11_settle 175 = .ok (.iload 6, 2) := by decide +kernel
theorem dX11_settle_177 : decode cX11_settle 177 = .ok (.iadd, 1) := by decide +kernel
theorem dX11_settle_178 : decode cX11_settle 178 = .ok (.iastore, 1) := by decide +kernel
theorem dX11_settle_179 : decode cX11_settle 179 = .ok (.iinc 4 1, 3) := by decide +kernel
theorem dX11_settle_182 : decode cX11_settle 182 = .ok (.iinc 5 1, 3) := by decide +kernel
theorem dX11_settle_185 : decode cX11_settle 185 = .ok (.goto (-66), 3) := by decide +kernel
theorem dX11_settle_188 : decode cX11_settle 188 = .ok (.iload 4, 2) := by decide +kernel
theorem dX11_settle_190 : decode cX11_settle 190 = .ok (.ireturn, 1) := by decide +kernel
theorem dX11_order_0 : decode cX11_order 0 = .ok (.iload_n 1, 1) := by decide +kernel
theorem dX11_order_1 : decode cX11_order 1 = .ok (.iconst 0, 1) := by decide +kernel
theorem dX11_order_2 : decode cX11_order 2 = .ok (.iconst 2, 1) := by decide +kernel
theorem dX11_order_3 : decode cX11_order 3 = .ok (.invokestatic 92, 3) := by decide +kernel
theorem dX11_order_6 : decode cX11_order 6 = .ok (.ifCond .eq 13, 3) := by decide +kernel
theorem dX11_order_9 : decode cX11_order 9 = .ok (.iload_n 2, 1) := by decide +kernel
theorem dX11_order_10 : decode cX11_order 10 = .ok (.iconst 0, 1) := by decide +kernel
theorem dX11_order_11 : decode cX11_order 11 = .ok (.ldc 91, 2) := by decide +kernel
theorem dX11_order_13 : decode cX11_order 13 = .ok (.invokestatic 92, 3) := by decide +kernel
theorem dX11_order_16 : decode cX11_order 16 = .ok (.ifCond .ne 5, 3) := by decide +kernel
theorem dX11_order_19 : decode cX11_order 19 = .ok (.iconst (-1), 1) := by decide +kernel
theorem dX11_order_20 : decode cX11_order 20 = .ok (.ireturn, 1) := by decide +kernel
theorem dX11_order_21 : decode cX11_order 21 = .ok (.aload_n 0, 1) := by decide +kernel
theorem dX11_order_22 : decode cX11_order 22 = .ok (.getfield 72, 3) := by decide +kernel
theorem dX11_order_25 : decode cX11_order 25 = .ok (.iload_n 1, 1) := by decide +kernel
theorem dX11_order_26 : decode cX11_order 26 = .ok (.iload_n 2, 1) := by decide +kernel
theorem dX11_order_27 : decode cX11_order 27 = .ok (.invokevirtual 341, 3) := by decide +kernel
theorem dX11_order_30 : decode cX11_order 30 = .ok (.ireturn, 1) := by decide +kernel
theorem dX11_clear_0 : decode cX11_clear 0 = .ok (.aload_n 0, 1) := by decide +kernel
theorem dX11_clear_1 : decode cX11_clear 1 = .ok (.getfield 72, 3) := by decide +kernel
theorem dX11_clear_4 : decode cX11_clear 4 = .ok (.iconst 0, 1) := by decide +kernel
theorem dX11_clear_5 : decode cX11_clear 5 = .ok (.putfield 344, 3) := by decide +kernel
theorem dX11_clear_8 : decode cX11_clear 8 = .ok (.return_, 1) := by decide +kernel
theorem dX11_met_0 : decode cX11_met 0 = .ok (.iload_n 1, 1) := by decide +kernel
theorem dX11_met_1 : decode cX11_met 1 = .ok (.iconst 0, 1) := by decide +kernel
theorem dX11_met_2 : decode cX11_met 2 = .ok (.aload_n 0, 1) := by decide +kernel
theorem dX11_met_3 : decode cX11_met 3 = .ok (.getfield 72, 3) := by decide +kernel
theorem dX11_met_6 : decode cX11_met 6 = .ok (.getfield 344, 3) := by decide +kernel
theorem dX11_met_9 : decode cX11_met 9 = .ok (.iconst 1, 1) := by decide +kernel
theorem dX11_met_10 : decode cX11_met 10 = .ok (.isub, 1) := by decide +kernel
theorem dX11_met_11 : decode cX11_met 11 = .ok (.invokestatic 92, 3) := by decide +kernel
theorem dX11_met_14 : decode cX11_met 14 = .ok (.ifCond .ne 5, 3) := by decide +kernel
theorem dX11_met_17 : decode cX11_met 17 = .ok (.iconst (-1), 1) := by decide +kernel
theorem dX11_met_18 : decode cX11_met 18 = .ok (.ireturn, 1) := by decide +kernel
theorem dX11_met_19 : decode cX11_met 19 = .ok (.aload_n 0, 1) := by decide +kernel
theorem dX11_met_20 : decode cX11_met 20 = .ok (.getfield 72, 3) := by decide +kernel
theorem dX11_met_23 : decode cX11_met 23 = .ok (.aload_n 0, 1) := by decide +kernel
theorem dX11_met_24 : decode cX11_met 24 = .ok (.getfield 45, 3) := by decide +kernel
theorem dX11_met_27 : decode cX11_met 27 = .ok (.aload_n 0, 1) := by decide +kernel
theorem dX11_met_28 : decode cX11_met 28 = .ok (.getfield 223, 3) := by decide +kernel
theorem dX11_met_31 : decode cX11_met 31 = .ok (.invokevirtual 345, 3) := by decide +kernel
theorem dX11_met_34 : decode cX11_met 34 = .ok (.aload_n 0, 1) := by decide +kernel
theorem dX11_met_35 : decode cX11_met 35 = .ok (.getfield 72, 3) := by decide +kernel
theorem dX11_met_38 : decode cX11_met 38 = .ok (.getfield 349, 3) := by decide +kernel
theorem dX11_met_41 : decode cX11_met 41 = .ok (.iload_n 1, 1) := by decide +kernel
theorem dX11_met_42 : decode cX11_met 42 = .ok (.invokestatic 148, 3) := by decide +kernel
theorem dX11_met_45 : decode cX11_met 45 = .ok (.ireturn, 1) := by decide +kernel
theorem dX11_want_0 : decode cX11_want 0 = .ok (.aload_n 0, 1) := by decide +kernel
theorem dX11_want_1 : decode cX11_want 1 = .ok (.getfield 72, 3) := by decide +kernel
theorem dX11_want_4 : decode cX11_want 4 = .ok (.aload_n 0, 1) := by decide +kernel
theorem dX11_want_5 : decode cX11_want 5 = .ok (.getfield 45, 3) := by decide +kernel
theorem dX11_want_8 : decode cX11_want 8 = .ok (.aload_n 0, 1) := by decide +kernel
theorem dX11_want_9 : decode cX11_want 9 = .ok (.getfield 223, 3) := by decide +kernel
theorem dX11_want_12 : decode cX11_want 12 = .ok (.invokevirtual 352, 3) := by decide +kernel
theorem dX11_want_15 : decode cX11_want 15 = .ok (.aload_n 0, 1) := by decide +kernel
theorem dX11_want_16 : decode cX11_want 16 = .ok (.getfield 72, 3) := by decide +kernel
theorem dX11_want_19 : decode cX11_want 19 = .ok (.invokevirtual 355, 3) := by decide +kernel
theorem dX11_want_22 : decode cX11_want 22 = .ok (.ireturn, 1) := by decide +kernel
theorem dX11_count_0 : decode cX11_count 0 = .ok (.iload_n 1, 1) := by decide +kernel
theorem dX11_count_1 : decode cX11_count 1 = .ok (.tableswitch 138 0 9 #[55, 60, 65, 70, 75, 83, 91, 114, 122, 133], 55) := by decide +kernel
theorem dX11_count_56 : decode cX11_count 56 = .ok (.aload_n 0, 1) := by decide +kernel
theorem dX11_count_57 : decode cX11_count 57 = .ok (.getfield 110, 3) := by decide +kernel
theorem dX11_count_60 : decode cX11_count 60 = .ok (.ireturn, 1) := by decide +kernel
theorem dX11_count_61 : decode cX11_count 61 = .ok (.aload_n 0, 1) := by decide +kernel
theorem dX11_count_62 : decode cX11_count 62 = .ok (.getfield 87, 3) := by decide +kernel
theorem dX11_count_65 : decode cX11_count 65 = .ok (.ireturn, 1) := by decide +kernel
theorem dX11_count_66 : decode cX11_count 66 = .ok (.aload_n 0, 1) := by decide +kernel
theorem dX11_count_67 : decode cX11_count 67 = .ok (.getfield 223, 3) := by decide +kernel
theorem dX11_count_70 : decode cX11_count 70 = .ok (.ireturn, 1) := by decide +kernel
theorem dX11_count_71 : decode cX11_count 71 = .ok (.aload_n 0, 1) := by decide +kernel
theorem dX11_count_72 : decode cX11_count 72 = .ok (.getfield 285, 3) := by decide +kernel
theorem dX11_count_75 : decode cX11_count 75 = .ok (.ireturn, 1) := by decide +kernel
theorem dX11_count_76 : decode cX11_count 76 = .ok (.aload_n 0, 1) := by decide +kernel
theorem dX11_count_77 : decode cX11_count 77 = .ok (.getfield 65, 3) := by decide +kernel
theorem dX11_count_80 : decode cX11_count 80 = .ok (.getfield 295, 3) := by decide +kernel
theorem dX11_count_83 : decode cX11_count 83 = .ok (.ireturn, 1) := by decide +kernel
theorem dX11_count_84 : decode cX11_count 84 = .ok (.aload_n 0, 1) := by decide +kernel
theorem dX11_count_85 : decode cX11_count 85 = .ok (.getfield 72, 3) := by decide +kernel
theorem dX11_count_88 : decode cX11_count 88 = .ok (.getfield 344, 3) := by decide +kernel
theorem dX11_count_91 : decode cX11_count 91 = .ok (.ireturn, 1) := by decide +kernel
theorem dX11_count_92 : decode cX11_count 92 = .ok (.aload_n 0, 1) := by decide +kernel
theorem dX11_count_93 : decode cX11_count 93 = .ok (.getfield 72, 3) := by decide +kernel
theorem dX11_count_96 : decode cX11_count 96 = .ok (.aload_n 0, 1) := by decide +kernel
theorem dX11_count_97 : decode cX11_count 97 = .ok (.getfield 45, 3) := by decide +kernel
theorem dX11_count_100 : decode cX11_count 100 = .ok (.aload_n 0, 1) := by decide +kernel
theorem dX11_count_101 : decode cX11_count 101 = .ok (.getfield 223, 3) := by decide +kernel
theorem dX11_count_104 : decode cX11_count 104 = .ok (.invokevirtual 345, 3) := by decide +kernel
theorem dX11_count_107 : decode cX11_count 107 = .ok (.aload_n 0, 1) := by decide +kernel
theorem dX11_count_108 : decode cX11_count 108 = .ok (.getfield 72, 3) := by decide +kernel
theorem dX11_count_111 : decode cX11_count 111 = .ok (.invokevirtual 358, 3) := by decide +kernel
theorem dX11_count_114 : decode cX11_count 114 = .ok (.ireturn, 1) := by decide +kernel
theorem dX11_count_115 : decode cX11_count 115 = .ok (.aload_n 0, 1) := by decide +kernel
theorem dX11_count_116 : decode cX11_count 116 = .ok (.getfield 25, 3) := by decide +kernel
theorem dX11_count_119 : decode cX11_count 119 = .ok (.getfield 156, 3) := by decide +kernel
theorem dX11_count_122 : decode cX11_count 122 = .ok (.ireturn, 1) := by decide +kernel
theorem dX11_count_123 : decode cX11_count 123 = .ok (.aload_n 0, 1) := by decide +kernel
theorem dX11_count_124 : decode cX11_count 124 = .ok (.getfield 18, 3) := by decide +kernel
theorem dX11_count_127 : decode cX11_count 127 = .ok (.getfield 181, 3) := by decide +kernel
theorem dX11_count_130 : decode cX11_count 130 = .ok (.invokestatic 177, 3) := by decide +kernel
theorem dX11_count_133 : decode cX11_count 133 = .ok (.ireturn, 1) := by decide +kernel
theorem dX11_count_134 : decode cX11_count 134 = .ok (.aload_n 0, 1) := by decide +kernel
theorem dX11_count_135 : decode cX11_count 135 = .ok (.getfield 250, 3) := by decide +kernel
theorem dX11_count_138 : decode cX11_count 138 = .ok (.ireturn, 1) := by decide +kernel
theorem dX11_count_139 : decode cX11_count 139 = .ok (.iconst (-1), 1) := by decide +kernel
theorem dX11_count_140 : decode cX11_count 140 = .ok (.ireturn, 1) := by decide +kernel
theorem dX11_bogAt_0 : decode cX11_bogAt 0 = .ok (.iload_n 1, 1) := by decide +kernel
theorem dX11_bogAt_1 : decode cX11_bogAt 1 = .ok (.ifCond .lt 29, 3) := by decide +kernel
theorem dX11_bogAt_4 : decode cX11_bogAt 4 = .ok (.iload_n 1, 1) := by decide +kernel
theorem dX11_bogAt_5 : decode cX11_bogAt 5 = .ok (.aload_n 0, 1) := by decide +kernel
theorem dX11_bogAt_6 : decode cX11_bogAt 6 = .ok (.getfield 87, 3) := by decide +kernel
theorem dX11_bogAt_9 : decode cX11_bogAt 9 = .ok (.if_icmp .ge 21, 3) := by decide +kernel
theorem dX11_bogAt_12 : decode cX11_bogAt 12 = .ok (.iload_n 1, 1) := by decide +kernel
theorem dX11_bogAt_13 : decode cX11_bogAt 13 = .ok (.aload_n 0, 1) := by decide +kernel
theorem dX11_bogAt_14 : decode cX11_bogAt 14 = .ok (.getfield 11, 3) := by decide +kernel
theorem dX11_bogAt_17 : decode cX11_bogAt 17 = .ok (.arraylength, 1) := by decide +kernel
theorem dX11_bogAt_18 : decode cX11_bogAt 18 = .ok (.if_icmp .ge 12, 3) := by decide +kernel
theorem dX11_bogAt_21 : decode cX11_bogAt 21 = .ok (.aload_n 0, 1) := by decide +kernel
theorem dX11_bogAt_22 : decode cX11_bogAt 22 = .ok (.getfield 11, 3) := by decide +kernel
theorem dX11_bogAt_25 : decode cX11_bogAt 25 = .ok (.iload_n 1, 1) := by decide +kernel
theorem dX11_bogAt_26 : decode cX11_bogAt 26 = .ok (.aaload, 1) := by decide +kernel
theorem dX11_bogAt_27 : decode cX11_bogAt 27 = .ok (.goto 4, 3) := by decide +kernel
theorem dX11_bogAt_30 : decode cX11_bogAt 30 = .ok (.aconst_null, 1) := by decide +kernel
theorem dX11_bogAt_31 : decode cX11_bogAt 31 = .ok (.areturn, 1) := by decide +kernel
theorem dX11_barAt_0 : decode cX11_barAt 0 = .ok (.iload_n 1, 1) := by decide +kernel
theorem dX11_barAt_1 : decode cX11_barAt 1 = .ok (.ifCond .lt 29, 3) := by decide +kernel
theorem dX11_barAt_4 : decode cX11_barAt 4 = .ok (.iload_n 1, 1) := by decide +kernel
theorem dX11_barAt_5 : decode cX11_barAt 5 = .ok (.aload_n 0, 1) := by decide +kernel
theorem dX11_barAt_6 : decode cX11_barAt 6 = .ok (.getfield 223, 3) := by decide +kernel
theorem dX11_barAt_9 : decode cX11_barAt 9 = .ok (.if_icmp .ge 21, 3) := by decide +kernel
theorem dX11_barAt_12 : decode cX11_barAt 12 = .ok (.iload_n 1, 1) := by decide +kernel
theorem dX11_barAt_13 : decode cX11_barAt 13 = .ok (.aload_n 0, 1) := by decide +kernel
theorem dX11_barAt_14 : decode cX11_barAt 14 = .ok (.getfield 45, 3) := by decide +kernel
theorem dX11_barAt_17 : decode cX11_barAt 17 = .ok (.arraylength, 1) := by decide +kernel
theorem dX11_barAt_18 : decode cX11_barAt 18 = .ok (.if_icmp .ge 12, 3) := by decide +kernel
theorem dX11_barAt_21 : decode cX11_barAt 21 = .ok (.aload_n 0, 1) := by decide +kernel
theorem dX11_barAt_22 : decode cX11_barAt 22 = .ok (.getfield 45, 3) := by decide +kernel
theorem dX11_barAt_25 : decode cX11_barAt 25 = .ok (.iload_n 1, 1) := by decide +kernel
theorem dX11_barAt_26 : decode cX11_barAt 26 = .ok (.aaload, 1) := by decide +kernel
theorem dX11_barAt_27 : decode cX11_barAt 27 = .ok (.goto 4, 3) := by decide +kernel
theorem dX11_barAt_30 : decode cX11_barAt 30 = .ok (.aconst_null, 1) := by decide +kernel
theorem dX11_barAt_31 : decode cX11_barAt 31 = .ok (.areturn, 1) := by decide +kernel
theorem dX11_within_0 : decode cX11_within 0 = .ok (.iload_n 0, 1) := by decide +kernel
theorem dX11_within_1 : decode cX11_within 1 = .ok (.iload_n 1, 1) := by decide +kernel
theorem dX11_within_2 : decode cX11_within 2 = .ok (.if_icmp .lt 12, 3) := by decide +kernel
theorem dX11_within_5 : decode cX11_within 5 = .ok (.iload_n 0, 1) := by decide +kernel
theorem dX11_within_6 : decode cX11_within 6 = .ok (.iload_n 2, 1) := by decide +kernel
theorem dX11_within_7 : decode cX11_within 7 = .ok (.if_icmp .gt 7, 3) := by decide +kernel
theorem dX11_within_10 : decode cX11_within 10 = .ok (.iconst 1, 1) := by decide +kernel
theorem dX11_within_11 : decode cX11_within 11 = .ok (.goto 4, 3) := by decide +kernel
theorem dX11_within_14 : decode cX11_within 14 = .ok (.iconst 0, 1) := by decide +kernel
theorem dX11_within_15 : decode cX11_within 15 = .ok (.ireturn, 1) := by decide +kernel
theorem dX11_itemOf_0 : decode cX11_itemOf 0 = .ok (.iload_n 1, 1) := by decide +kernel
theorem dX11_itemOf_1 : decode cX11_itemOf 1 = .ok (.ifCond .lt 15, 3) := by decide +kernel
theorem dX11_itemOf_4 : decode cX11_itemOf 4 = .ok (.iload_n 1, 1) := by decide +kernel
theorem dX11_itemOf_5 : decode cX11_itemOf 5 = .ok (.aload_n 0, 1) := by decide +kernel
theorem dX11_itemOf_6 : decode cX11_itemOf 6 = .ok (.arraylength, 1) := by decide +kernel
theorem dX11_itemOf_7 : decode cX11_itemOf 7 = .ok (.if_icmp .ge 9, 3) := by decide +kernel
theorem dX11_itemOf_10 : decode cX11_itemOf 10 = .ok (.aload_n 0, 1) := by decide +kernel
theorem dX11_itemOf_11 : decode cX11_itemOf 11 = .ok (.iload_n 1, 1) := by decide +kernel
theorem dX11_itemOf_12 : decode cX11_itemOf 12 = .ok (.iaload, 1) := by decide +kernel
theorem dX11_itemOf_13 : decode cX11_itemOf 13 = .ok (.goto 4, 3) := by decide +kernel
theorem dX11_itemOf_16 : decode cX11_itemOf 16 = .ok (.iconst 0, 1) := by decide +kernel
theorem dX11_itemOf_17 : decode cX11_itemOf 17 = .ok (.ireturn, 1) := by decide +kernel
theorem dX11_sumOf_0 : decode cX11_sumOf 0 = .ok (.iconst 0, 1) := by decide +kernel
theorem dX11_sumOf_1 : decode cX11_sumOf 1 = .ok (.istore_n 1, 1) := by decide +kernel
theorem dX11_sumOf_2 : decode cX11_sumOf 2 = .ok (.iconst 0, 1) := by decide +kernel
theorem dX11_sumOf_3 : decode cX11_sumOf 3 = .ok (.istore_n 2, 1) := by decide +kernel
theorem dX11_sumOf_4 : decode cX11_sumOf 4 = .ok (.iload_n 2, 1) := by decide +kernel
theorem dX11_sumOf_5 : decode cX11_sumOf 5 = .ok (.aload_n 0, 1) := by decide +kernel
theorem dX11_sumOf_6 : decode cX11_sumOf 6 = .ok (.arraylength, 1) := by decide +kernel
theorem dX11_sumOf_7 : decode cX11_sumOf 7 = .ok (.if_icmp .ge 15, 3) := by decide +kernel
theorem dX11_sumOf_10 : decode cX11_sumOf 10 = .ok (.iload_n 1, 1) := by decide +kernel
theorem dX11_sumOf_11 : decode cX11_sumOf 11 = .ok (.aload_n 0, 1) := by decide +kernel
theorem dX11_sumOf_12 : decode cX11_sumOf 12 = .ok (.iload_n 2, 1) := by decide +kernel
theorem dX11_sumOf_13 : decode cX11_sumOf 13 = .ok (.iaload, 1) := by decide +kernel
theorem dX11_sumOf_14 : decode cX11_sumOf 14 = .ok (.iadd, 1) := by decide +kernel
theorem dX11_sumOf_15 : decode cX11_sumOf 15 = .ok (.istore_n 1, 1) := by decide +kernel
theorem dX11_sumOf_16 : decode cX11_sumOf 16 = .ok (.iinc 2 1, 3) := by decide +kernel
theorem dX11_sumOf_19 : decode cX11_sumOf 19 = .ok (.goto (-15), 3) := by decide +kernel
theorem dX11_sumOf_22 : decode cX11_sumOf 22 = .ok (.iload_n 1, 1) := by decide +kernel
theorem dX11_sumOf_23 : decode cX11_sumOf 23 = .ok (.ireturn, 1) := by decide +kernel
theorem dX12_init_0 : decode cX12_init 0 = .ok (.aload_n 0, 1) := by decide +kernel
theorem dX12_init_1 : decode cX12_init 1 = .ok (.invokespecial 1, 3) := by decide +kernel
theorem dX12_init_4 : decode cX12_init 4 = .ok (.aload_n 0, 1) := by decide +kernel
theorem dX12_init_5 : decode cX12_init 5 = .ok (.bipush 12, 2) := by decide +kernel
theorem dX12_init_7 : decode cX12_init 7 = .ok (.newarray .int, 2) := by decide +kernel
theorem dX12_init_9 : decode cX12_init 9 = .ok (.putfield 9, 3) := by decide +kernel
theorem dX12_init_12 : decode cX12_init 12 = .ok (.aload_n 0, 1) := by decide +kernel
theorem dX12_init_13 : decode cX12_init 13 = .ok (.bipush 12, 2) := by decide +kernel
theorem dX12_init_15 : decode cX12_init 15 = .ok (.newarray .int, 2) := by decide +kernel
theorem dX12_init_17 : decode cX12_init 17 = .ok (.putfield 13, 3) := by decide +kernel
theorem dX12_init_20 : decode cX12_init 20 = .ok (.aload_n 0, 1) := by decide +kernel
theorem dX12_init_21 : decode cX12_init 21 = .ok (.bipush 12, 2) := by decide +kernel
theorem dX12_init_23 : decode cX12_init 23 = .ok (.newarray .int, 2) := by decide +kernel
theorem dX12_init_25 : decode cX12_init 25 = .ok (.putfield 16, 3) := by decide +kernel
theorem dX12_init_28 : decode cX12_init 28 = .ok (.aload_n 0, 1) := by decide +kernel
theorem dX12_init_29 : decode cX12_init 29 = .ok (.bipush 12, 2) := by decide +kernel
theorem dX12_init_31 : decode cX12_init 31 = .ok (.newarray .int, 2) := by decide +kernel
theorem dX12_init_33 : decode cX12_init 33 = .ok (.putfield 19, 3) := by decide +kernel
theorem dX12_init_36 : decode cX12_init 36 = .ok (.aload_n 0, 1) := by decide +kernel
theorem dX12_init_37 : decode cX12_init 37 = .ok (.bipush 12, 2) := by decide +kernel
theorem dX12_init_39 : decode cX12_init 39 = .ok (.newarray .int, 2) := by decide +kernel
theorem dX12_init_41 : decode cX12_init 41 = .ok (.putfield 22, 3) := by decide +kernel
theorem dX12_init_44 : decode cX12_init 44 = .ok (.aload_n 0, 1) := by decide +kernel
theorem dX12_init_45 : decode cX12_init 45 = .ok (.bipush 12, 2) := by decide +kernel
theorem dX12_init_47 : decode cX12_init 47 = .ok (.newarray .int, 2) := by decide +kernel
theorem dX12_init_49 : decode cX12_init 49 = .ok (.putfield 25, 3) := by decide +kernel
theorem dX12_init_52 : decode cX12_init 52 = .ok (.aload_n 0, 1) := by decide +kernel
theorem dX12_init_53 : decode cX12_init 53 = .ok (.bipush 12, 2) := by decide +kernel
theorem dX12_init_55 : decode cX12_init 55 = .ok (.newarray .int, 2) := by decide +kernel
theorem dX12_init_57 : decode cX12_init 57 = .ok (.putfield 28, 3) := by decide +kernel
theorem dX12_init_60 : decode cX12_init 60 = .ok (.aload_n 0, 1) := by decide +kernel
theorem dX12_init_61 : decode cX12_init 61 = .ok (.bipush 8, 2) := by decide +kernel
theorem dX12_init_63 : decode cX12_init 63 = .ok (.newarray .int, 2) := by decide +kernel
theorem dX12_init_65 : decode cX12_init 65 = .ok (.putfield 31, 3) := by decide +kernel
theorem dX12_init_68 : decode cX12_init 68 = .ok (.aload_n 0, 1) := by decide +kernel
theorem dX12_init_69 : decode cX12_init 69 = .ok (.bipush 12, 2) := by decide +kernel
theorem dX12_init_71 : decode cX12_init 71 = .ok (.newarray .long, 2) := by decide +kernel
theorem dX12_init_73 : decode cX12_init 73 = .ok (.putfield 34, 3) := by decide +kernel
theorem dX12_init_76 : decode cX12_init 76 = .ok (.aload_n 0, 1) := by decide +kernel
theorem dX12_init_77 : decode cX12_init 77 = .ok (.bipush 12, 2) := by decide +kernel
theorem dX12_init_79 : decode cX12_init 79 = .ok (.newarray .int, 2) := by decide +kernel
theorem dX12_init_81 : decode cX12_init 81 = .ok (.putfield 38, 3) := by decide +kernel
theorem dX12_init_84 : decode cX12_init 84 = .ok (.aload_n 0, 1) := by decide +kernel
theorem dX12_init_85 : decode cX12_init 85 = .ok (.bipush 12, 2) := by decide +kernel
theorem dX12_init_87 : decode cX12_init 87 = .ok (.newarray .boolean, 2) := by decide +kernel
theorem dX12_init_89 : decode cX12_init 89 = .ok (.putfield 41, 3) := by decide +kernel
theorem dX12_init_92 : decode cX12_init 92 = .ok (.aload_n 0, 1) := by decide +kernel
theorem dX12_init_93 : decode cX12_init 93 = .ok (.bipush 12, 2) := by decide +kernel
theorem dX12_init_95 : decode cX12_init 95 = .ok (.newarray .int, 2) := by decide +kernel
theorem dX12_init_97 : decode cX12_init 97 = .ok (.putfield 45, 3) := by decide +kernel
theorem dX12_init_100 : decode cX12_init 100 = .ok (.aload_n 0, 1) := by decide +kernel
theorem dX12_init_101 : decode cX12_init 101 = .ok (.bipush 8, 2) := by decide +kernel
theorem dX12_init_103 : decode cX12_init 103 = .ok (.newarray .int, 2) := by decide +kernel
theorem dX12_init_105 : decode cX12_init 105 = .ok (.putfield 48, 3) := by decide +kernel
theorem dX12_init_108 : decode cX12_init 108 = .ok (.aload_n 0, 1) := by decide +kernel
theorem dX12_init_109 : decode cX12_init 109 = .ok (.bipush 12, 2) := by decide +kernel
theorem dX12_init_111 : decode cX12_init 111 = .ok (.newarray .int, 2) := by decide +kernel
theorem dX12_init_113 : decode cX12_init 113 = .ok (.putfield 51, 3) := by decide +kernel
theorem dX12_init_116 : decode cX12_init 116 = .ok (.aload_n 0, 1) := by decide +kernel
theorem dX12_init_117 : decode cX12_init 117 = .ok (.iconst (-1), 1) := by decide +kernel
theorem dX12_init_118 : decode cX12_init 118 = .ok (.putfield 54, 3) := by decide +kernel
theorem dX12_init_121 : decode cX12_init 121 = .ok (.aload_n 0, 1) := by decide +kernel
theorem dX12_init_122 : decode cX12_init 122 = .ok (.bipush 9, 2) := by decide +kernel
theorem dX12_init_124 : decode cX12_init 124 = .ok (.putfield 58, 3) := by decide +kernel
theorem dX12_init_127 : decode cX12_init 127 = .ok (.aload_n 0, 1) := by decide +kernel
theorem dX12_init_128 : decode cX12_init 128 = .ok (.iconst 1, 1) := by decide +kernel
theorem dX12_init_129 : decode cX12_init 129 = .ok (.putfield 61, 3) := by decide +kernel
theorem dX12_init_132 : decode cX12_init 132 = .ok (.aload_n 0, 1) := by decide +kernel
theorem dX12_init_133 : decode cX12_init 133 = .ok (.sipush 220, 3) := by decide +kernel
theorem dX12_init_136 : decode cX12_init 136 = .ok (.newarray .int, 2) := by decide +kernel
theorem dX12_init_138 : decode cX12_init 138 = .ok (.putfield 64, 3) := by decide +kernel
theorem dX12_init_141 : decode cX12_init 141 = .ok (.aload_n 0, 1) := by decide +kernel
theorem dX12_init_142 : decode cX12_init 142 = .ok (.bipush 60, 2) := by decide +kernel
theorem dX12_init_144 : decode cX12_init 144 = .ok (.newarray .int, 2) := by decide +kernel
theorem dX12_init_146 : decode cX12_init 146 = .ok (.putfield 67, 3) := by decide +kernel
theorem dX12_init_149 : decode cX12_init 149 = .ok (.aload_n 0, 1) := by decide +kernel
theorem dX12_init_150 : decode cX12_init 150 = .ok (.bipush 60, 2) := by decide +kernel
theorem dX12_init_152 : decode cX12_init 152 = .ok (.newarray .int, 2) := by decide +kernel
theorem dX12_init_154 : decode cX12_init 154 = .ok (.putfield 70, 3) := by decide +kernel
theorem dX12_init_157 : decode cX12_init 157 = .ok (.aload_n 0, 1) := by decide +kernel
theorem dX12_init_158 : decode cX12_init 158 = .ok (.bipush 60, 2) := by decide +kernel
theorem dX12_init_160 : decode cX12_init 160 = .ok (.newarray .int, 2) := by decide +kernel
theorem dX12_init_162 : decode cX12_init 162 = .ok (.putfield 73, 3) := by decide +kernel
theorem dX12_init_165 : decode cX12_init 165 = .ok (.aload_n 0, 1) := by decide +kernel
theorem dX12_init_166 : decode cX12_init 166 = .ok (.bipush 60, 2) := by decide +kernel
theorem dX12_init_168 : decode cX12_init 168 = .ok (.newarray .int, 2) := by decide +kernel
theorem dX12_init_170 : decode cX12_init 170 = .ok (.putfield 76, 3) := by decide +kernel
theorem dX12_init_173 : decode cX12_init 173 = .ok (.aload_n 0, 1) := by decide +kernel
theorem dX12_init_174 : decode cX12_init 174 = .ok (.bipush 60, 2) := by decide +kernel
theorem dX12_init_176 : decode cX12_init 176 = .ok (.newarray .int, 2) := by decide +kernel
theorem dX12_init_178 : decode cX12_init 178 = .ok (.putfield 79, 3) := by decide +kernel
theorem dX12_init_181 : decode cX12_init 181 = .ok (.aload_n 0, 1) := by decide +kernel
theorem dX12_init_182 : decode cX12_init 182 = .ok (.bipush 60, 2) := by decide +kernel
theorem dX12_init_184 : decode cX12_init 184 = .ok (.newarray .int, 2) := by decide +kernel
theorem dX12_init_186 : decode cX12_init 186 = .ok (.putfield 82, 3) := by decide +kernel
theorem dX12_init_189 : decode cX12_init 189 = .ok (.aload_n 0, 1) := by decide +kernel
theorem dX12_init_190 : decode cX12_init 190 = .ok (.bipush 60, 2) := by decide +kernel
theorem dX12_init_192 : decode cX12_init 192 = .ok (.newarray .int, 2) := by decide +kernel
theorem dX12_init_194 : decode cX12_init 194 = .ok (.putfield 85, 3) := by decide +kernel
theorem dX12_init_197 : decode cX12_init 197 = .ok (.aload_n 0, 1) := by decide +kernel
theorem dX12_init_198 : decode cX12_init 198 = .ok (.bipush 60, 2) := by decide +kernel
theorem dX12_init_200 : decode cX12_init 200 = .ok (.newarray .int, 2) := by decide +kernel
theorem dX12_init_202 : decode cX12_init 202 = .ok (.putfield 88, 3) := by decide +kernel
theorem dX12_init_205 : decode cX12_init 205 = .ok (.aload_n 0, 1) := by decide +kernel
theorem dX12_init_206 : decode cX12_init 206 = .ok (.sipush 1200, 3) := by decide +kernel
theorem dX12_init_209 : decode cX12_init 209 = .ok (.newarray .int, 2) := by decide +kernel
theorem dX12_init_211 : decode cX12_init 211 = .ok (.putfield 91, 3) := by decide +kernel
theorem dX12_init_214 : decode cX12_init 214 = .ok (.aload_n 0, 1) := by decide +kernel
theorem dX12_init_215 : decode cX12_init 215 = .ok (.sipush 800, 3) := by decide +kernel
theorem dX12_init_218 : decode cX12_init 218 = .ok (.newarray .int, 2) := by decide +kernel
theorem dX12_init_220 : decode cX12_init 220 = .ok (.putfield 94, 3) := by decide +kernel
theorem dX12_init_223 : decode cX12_init 223 = .ok (.aload_n 0, 1) := by decide +kernel
theorem dX12_init_224 : decode cX12_init 224 = .ok (.bipush 100, 2) := by decide +kernel
theorem dX12_init_226 : decode cX12_init 226 = .ok (.newarray .int, 2) := by decide +kernel
theorem dX12_init_228 : decode cX12_init 228 = .ok (.putfield 97, 3) := by decide +kernel
theorem dX12_init_231 : decode cX12_init 231 = .ok (.aload_n 0, 1) := by decide +kernel
theorem dX12_init_232 : decode cX12_init 232 = .ok (.bipush 100, 2) := by decide +kernel
theorem dX12_init_234 : decode cX12_init 234 = .ok (.newarray .int, 2) := by decide +kernel
theorem dX12_init_236 : decode cX12_init 236 = .ok (.putfield 100, 3) := by decide +kernel
theorem dX12_init_239 : decode cX12_init 239 = .ok (.aload_n 0, 1) := by decide +kernel
theorem dX12_init_240 : decode cX12_init 240 = .ok (.bipush 100, 2) := by decide +kernel
theorem dX12_init_242 : decode cX12_init 242 = .ok (.newarray .int, 2) := by decide +kernel
theorem dX12_init_244 : decode cX12_init 244 = .ok (.putfield 103, 3) := by decide +kernel
theorem dX12_init_247 : decode cX12_init 247 = .ok (.aload_n 0, 1) := by decide +kernel
theorem dX12_init_248 : decode cX12_init 248 = .ok (.bipush 100, 2) := by decide +kernel
theorem dX12_init_250 : decode cX12_init 250 = .ok (.newarray .int, 2) := by decide +kernel
theorem dX12_init_252 : decode cX12_init 252 = .ok (.putfield 106, 3) := by decide +kernel
theorem dX12_init_255 : decode cX12_init 255 = .ok (.aload_n 0, 1) := by decide +kernel
theorem dX12_init_256 : decode cX12_init 256 = .ok (.bipush 100, 2) := by decide +kernel
theorem dX12_init_258 : decode cX12_init 258 = .ok (.newarray .int, 2) := by decide +kernel
theorem dX12_init_260 : decode cX12_init 260 = .ok (.putfield 109, 3) := by decide +kernel
theorem dX12_init_263 : decode cX12_init 263 = .ok (.aload_n 0, 1) := by decide +kernel
theorem dX12_init_264 : decode cX12_init 264 = .ok (.bipush 100, 2) := by decide +kernel
theorem dX12_init_266 : decode cX12_init 266 = .ok (.newarray .int, 2) := by decide +kernel
theorem dX12_init_268 : decode cX12_init 268 = .ok (.putfield 112, 3) := by decide +kernel
theorem dX12_init_271 : decode cX12_init 271 = .ok (.aload_n 0, 1) := by decide +kernel
theorem dX12_init_272 : decode cX12_init 272 = .ok (.bipush 100, 2) := by decide +kernel
theorem dX12_init_274 : decode cX12_init 274 = .ok (.newarray .int, 2) := by decide +kernel
theorem dX12_init_276 : decode cX12_init 276 = .ok (.putfield 115, 3) := by decide +kernel
theorem dX12_init_279 : decode cX12_init 279 = .ok (.aload_n 0, 1) := by decide +kernel
theorem dX12_init_280 : decode cX12_init 280 = .ok (.bipush 100, 2) := by decide +kernel
theorem dX12_init_282 : decode cX12_init 282 = .ok (.newarray .int, 2) := by decide +kernel
theorem dX12_init_284 : decode cX12_init 284 = .ok (.putfield 118, 3) := by decide +kernel
theorem dX12_init_287 : decode cX12_init 287 = .ok (.aload_n 0, 1) := by decide +kernel
theorem dX12_init_288 : decode cX12_init 288 = .ok (.bipush 100, 2) := by decide +kernel
theorem dX12_init_290 : decode cX12_init 290 = .ok (.newarray .int, 2) := by decide +kernel
theorem dX12_init_292 : decode cX12_init 292 = .ok (.putfield 121, 3) := by decide +kernel
theorem dX12_init_295 : decode cX12_init 295 = .ok (.aload_n 0, 1) := by decide +kernel
theorem dX12_init_296 : decode cX12_init 296 = .ok (.bipush 60, 2) := by decide +kernel
theorem dX12_init_298 : decode cX12_init 298 = .ok (.newarray .int, 2) := by decide +kernel
theorem dX12_init_300 : decode cX12_init 300 = .ok (.putfield 124, 3) := by decide +kernel
theorem dX12_init_303 : decode cX12_init 303 = .ok (.aload_n 0, 1) := by decide +kernel
theorem dX12_init_304 : decode cX12_init 304 = .ok (.bipush 60, 2) := by decide +kernel
theorem dX12_init_306 : decode cX12_init 306 = .ok (.newarray .int, 2) := by decide +kernel
theorem dX12_init_308 : decode cX12_init 308 = .ok (.putfield 127, 3) := by decide +kernel
theorem dX12_init_311 : decode cX12_init 311 = .ok (.aload_n 0, 1) := by decide +kernel
theorem dX12_init_312 : decode cX12_init 312 = .ok (.bipush 60, 2) := by decide +kernel
theorem dX12_init_314 : decode cX12_init 314 = .ok (.newarray .int, 2) := by decide +kernel
theorem dX12_init_316 : decode cX12_init 316 = .ok (.putfield 130, 3) := by decide +kernel
theorem dX12_init_319 : decode cX12_init 319 = .ok (.aload_n 0, 1) := by decide +kernel
theorem dX12_init_320 : decode cX12_init 320 = .ok (.sipush 480, 3) := by decide +kernel
theorem dX12_init_323 : decode cX12_init 323 = .ok (.newarray .int, 2) := by decide +kernel
theorem dX12_init_325 : decode cX12_init 325 = .ok (.putfield 133, 3) := by decide +kernel
theorem dX12_init_328 : decode cX12_init 328 = .ok (.aload_n 0, 1) := by decide +kernel
theorem dX12_init_329 : decode cX12_init 329 = .ok (.bipush 8, 2) := by decide +kernel
theorem dX12_init_331 : decode cX12_init 331 = .ok (.newarray .int, 2) := by decide +kernel
theorem dX12_init_333 : decode cX12_init 333 = .ok (.putfield 136, 3) := by decide +kernel
theorem dX12_init_336 : decode cX12_init 336 = .ok (.aload_n 0, 1) := by decide +kernel
theorem dX12_init_337 : decode cX12_init 337 = .ok (.sipush 256, 3) := by decide +kernel
theorem dX12_init_340 : decode cX12_init 340 = .ok (.newarray .int, 2) := by decide +kernel
theorem dX12_init_342 : decode cX12_init 342 = .ok (.putfield 139, 3) := by decide +kernel
theorem dX12_init_345 : decode cX12_init 345 = .ok (.aload_n 0, 1) := by decide +kernel
theorem dX12_init_346 : decode cX12_init 346 = .ok (.sipush 256, 3) := by decide +kernel
theorem dX12_init_349 : decode cX12_init 349 = .ok (.newarray .int, 2) := by decide +kernel
theorem dX12_init_351 : decode cX12_init 351 = .ok (.putfield 142, 3) := by decide +kernel
theorem dX12_init_354 : decode cX12_init 354 = .ok (.aload_n 0, 1) := by decide +kernel
theorem dX12_init_355 : decode cX12_init 355 = .ok (.sipush 256, 3) := by decide +kernel
theorem dX12_init_358 : decode cX12_init 358 = .ok (.newarray .int, 2) := by decide +kernel
theorem dX12_init_360 : decode cX12_init 360 = .ok (.putfield 145, 3) := by decide +kernel
theorem dX12_init_363 : decode cX12_init 363 = .ok (.aload_n 0, 1) := by decide +kernel
theorem dX12_init_364 : decode cX12_init 364 = .ok (.sipush 256, 3) := by decide +kernel
theorem dX12_init_367 : decode cX12_init 367 = .ok (.newarray .int, 2) := by decide +kernel
theorem dX12_init_369 : decode cX12_init 369 = .ok (.putfield 148, 3) := by decide +kernel
theorem dX12_init_372 : decode cX12_init 372 = .ok (.aload_n 0, 1) := by decide +kernel
theorem dX12_init_373 : decode cX12_init 373 = .ok (.bipush 8, 2) := by decide +kernel
theorem dX12_init_375 : decode cX12_init 375 = .ok (.newarray .int, 2) := by decide +kernel
theorem dX12_init_377 : decode cX12_init 377 = .ok (.putfield 151, 3) := by decide +kernel
theorem dX12_init_380 : decode cX12_init 380 = .ok (.aload_n 0, 1) := by decide +kernel
theorem dX12_init_381 : decode cX12_init 381 = .ok (.bipush 8, 2) := by decide +kernel
theorem dX12_init_383 : decode cX12_init 383 = .ok (.newarray .int, 2) := by decide +kernel
theorem dX12_init_385 : decode cX12_init 385 = .ok (.putfield 154, 3) := by decide +kernel
theorem dX12_init_388 : decode cX12_init 388 = .ok (.aload_n 0, 1) := by decide +kernel
theorem dX12_init_389 : decode cX12_init 389 = .ok (.bipush 8, 2) := by decide +kernel
theorem dX12_init_391 : decode cX12_init 391 = .ok (.newarray .int, 2) := by decide +kernel
theorem dX12_init_393 : decode cX12_init 393 = .ok (.putfield 157, 3) := by decide +kernel
theorem dX12_init_396 : decode cX12_init 396 = .ok (.aload_n 0, 1) := by decide +kernel
theorem dX12_init_397 : decode cX12_init 397 = .ok (.bipush 100, 2) := by decide +kernel
theorem dX12_init_399 : decode cX12_init 399 = .ok (.newarray .int, 2) := by decide +kernel
theorem dX12_init_401 : decode cX12_init 401 = .ok (.putfield 160, 3) := by decide +kernel
theorem dX12_init_404 : decode cX12_init 404 = .ok (.aload_n 0, 1) := by decide +kernel
theorem dX12_init_405 : decode cX12_init 405 = .ok (.bipush 100, 2) := by decide +kernel
theorem dX12_init_407 : decode cX12_init 407 = .ok (.newarray .boolean, 2) := by decide +kernel
theorem dX12_init_409 : decode cX12_init 409 = .ok (.putfield 163, 3) := by decide +kernel
theorem dX12_init_412 : decode cX12_init 412 = .ok (.return_, 1) := by decide +kernel
theorem dX12_in_0 : decode cX12_in 0 = .ok (.iload_n 0, 1) := by decide +kernel
theorem dX12_in_1 : decode cX12_in 1 = .ok (.iload_n 1, 1) := by decide +kernel
theorem dX12_in_2 : decode cX12_in 2 = .ok (.if_icmp .lt 12, 3) := by decide +kernel
theorem dX12_in_5 : decode cX12_in 5 = .ok (.iload_n 0, 1) := by decide +kernel
theorem dX12_in_6 : decode cX12_in 6 = .ok (.iload_n 2, 1) := by decide +kernel
theorem dX12_in_7 : decode cX12_in 7 = .ok (.if_icmp .gt 7, 3) := by decide +kernel
theorem dX12_in_10 : decode cX12_in 10 = .ok (.iconst 1, 1) := by decide +kernel
theorem dX12_in_11 : decode cX12_in 11 = .ok (.goto 4, 3) := by decide +kernel
theorem dX12_in_14 : decode cX12_in 14 = .ok (.iconst 0, 1) := by decide +kernel
theorem dX12_in_15 : decode cX12_in 15 = .ok (.ireturn, 1) := by decide +kernel
theorem dX12_isBog_0 : decode cX12_isBog 0 = .ok (.iload_n 1, 1) := by decide +kernel
theorem dX12_isBog_1 : decode cX12_isBog 1 = .ok (.iconst 0, 1) := by decide +kernel
theorem dX12_isBog_2 : decode cX12_isBog 2 = .ok (.aload_n 0, 1) := by decide +kernel
theorem dX12_isBog_3 : decode cX12_isBog 3 = .ok (.getfield 166, 3) := by decide +kernel
theorem dX12_isBog_6 : decode cX12_isBog 6 = .ok (.iconst 1, 1) := by decide +kernel
theorem dX12_isBog_7 : decode cX12_isBog 7 = .ok (.isub, 1) := by decide +kernel
theorem dX12_isBog_8 : decode cX12_isBog 8 = .ok (.invokestatic 169, 3) := by decide +kernel
theorem dX12_isBog_11 : decode cX12_isBog 11 = .ok (.ireturn, 1) := by decide +kernel
theorem dX12_sum_0 : decode cX12_sum 0 = .ok (.iconst 0, 1) := by decide +kernel
theorem dX12_sum_1 : decode cX12_sum 1 = .ok (.istore_n 1, 1) := by decide +kernel
theorem dX12_sum_2 : decode cX12_sum 2 = .ok (.iconst 0, 1) := by decide +kernel
theorem dX12_sum_3 : decode cX12_sum 3 = .ok (.istore_n 2, 1) := by decide +kernel
theorem dX12_sum_4 : decode cX12_sum 4 = .ok (.iload_n 2, 1) := by decide +kernel
theorem dX12_sum_5 : decode cX12_sum 5 = .ok (.aload_n 0, 1) := by decide +kernel
theorem dX12_sum_6 : decode cX12_sum 6 = .ok (.arraylength, 1) := by decide +kernel
theorem dX12_sum_7 : decode cX12_sum 7 = .ok (.if_icmp .ge 15, 3) := by decide +kernel
theorem dX12_sum_10 : decode cX12_sum 10 = .ok (.iload_n 1, 1) := by decide +kernel
theorem dX12_sum_11 : decode cX12_sum 11 = .ok (.aload_n 0, 1) := by decide +kernel
theorem dX12_sum_12 : decode cX12_sum 12 = .ok (.iload_n 2, 1) := by decide +kernel
theorem dX12_sum_13 : decode cX12_sum 13 = .ok (.iaload, 1) := by decide +kernel
theorem dX12_sum_14 : decode cX12_sum 14 = .ok (.iadd, 1) := by decide +kernel
theorem dX12_sum_15 : decode cX12_sum 15 = .ok (.istore_n 1, 1) := by decide +kernel
theorem dX12_sum_16 : decode cX12_sum 16 = .ok (.iinc 2 1, 3) := by decide +kernel
theorem dX12_sum_19 : decode cX12_sum 19 = .ok (.goto (-15), 3) := by decide +kernel
theorem dX12_sum_22 : decode cX12_sum 22 = .ok (.iload_n 1, 1) := by decide +kernel
theorem dX12_sum_23 : decode cX12_sum 23 = .ok (.ireturn, 1) := by decide +kernel
theorem dX12_partAmong_0 : decode cX12_partAmong 0 = .ok (.lconst 0, 1) := by decide +kernel
theorem dX12_partAmong_1 : decode cX12_partAmong 1 = .ok (.lstore 4, 2) := by decide +kernel
theorem dX12_partAmong_3 : decode cX12_partAmong 3 = .ok (.iconst 0, 1) := by decide +kernel
theorem dX12_partAmong_4 : decode cX12_partAmong 4 = .ok (.istore 6, 2) := by decide +kernel
theorem dX12_partAmong_6 : decode cX12_partAmong 6 = .ok (.iload 6, 2) := by decide +kernel
theorem dX12_partAmong_8 : decode cX12_partAmong 8 = .ok (.iload_n 3, 1) := by decide +kernel
theorem dX12_partAmong_9 : decode cX12_partAmong 9 = .ok (.if_icmp .ge 21, 3) := by decide +kernel
theorem dX12_partAmong_12 : decode cX12_partAmong 12 = .ok (.lload 4, 2) := by decide +kernel
theorem dX12_partAmong_14 : decode cX12_partAmong 14 = .ok (.aload_n 0, 1) := by decide +kernel
theorem dX12_partAmong_15 : decode cX12_partAmong 15 = .ok (.getfield 34, 3) := by decide +kernel
theorem dX12_partAmong_18 : decode cX12_partAmong 18 = .ok (.iload 6, 2) := by decide +kernel
theorem dX12_partAmong_20 : decode cX12_partAmong 20 = .ok (.laload, 1) := by decide +kernel
theorem dX12_partAmong_21 : decode cX12_partAmong 21 = .ok (.ladd, 1) := by decide +kernel
theorem dX12_partAmong_22 : decode cX12_partAmong 22 = .ok (.lstore 4, 2) := by decide +kernel
theorem dX12_partAmong_24 : decode cX12_partAmong 24 = .ok (.iinc 6 1, 3) := by decide +kernel
theorem dX12_partAmong_27 : decode cX12_partAmong 27 = .ok (.goto (-21), 3) := by decide +kernel
theorem dX12_partAmong_30 : decode cX12_partAmong 30 = .ok (.lload_n 1, 1) := by decide +kernel
theorem dX12_partAmong_31 : decode cX12_partAmong 31 = .ok (.lstore 6, 2) := by decide +kernel
theorem dX12_partAmong_33 : decode cX12_partAmong 33 = .ok (.iconst 0, 1) := by decide +kernel
theorem dX12_partAmong_34 : decode cX12_partAmong 34 = .ok (.istore 8, 2) := by decide +kernel
theorem dX12_partAmong_36 : decode cX12_partAmong 36 = .ok (.iload 8, 2) := by decide +kernel
theorem dX12_partAmong_38 : decode cX12_partAmong 38 = .ok (.iload_n 3, 1) := by decide +kernel
theorem dX12_partAmong_39 : decode cX12_partAmong 39 = .ok (.if_icmp .ge 50, 3) := by decide +kernel
theorem dX12_partAmong_42 : decode cX12_partAmong 42 = .ok (.aload_n 0, 1) := by decide +kernel
theorem dX12_partAmong_43 : decode cX12_partAmong 43 = .ok (.getfield 38, 3) := by decide +kernel
theorem dX12_partAmong_46 : decode cX12_partAmong 46 = .ok (.iload 8, 2) := by decide +kernel
theorem dX12_partAmong_48 : decode cX12_partAmong 48 = .ok (.lload_n 1, 1) := by decide +kernel
theorem dX12_partAmong_49 : decode cX12_partAmong 49 = .ok (.aload_n 0, 1) := by decide +kernel
theorem dX12_partAmong_50 : decode cX12_partAmong 50 = .ok (.getfield 34, 3) := by decide +kernel
theorem dX12_partAmong_53 : decode cX12_partAmong 53 = .ok (.iload 8, 2) := by decide +kernel
theorem dX12_partAmong_55 : decode cX12_partAmong 55 = .ok (.laload, 1) := by decide +kernel
theorem dX12_partAmong_56 : decode cX12_partAmong 56 = .ok (.lmul, 1) := by decide +kernel
theorem dX12_partAmong_57 : decode cX12_partAmong 57 = .ok (.lload 4, 2) := by decide +kernel
theorem dX12_partAmong_59 : decode cX12_partAmong 59 = .ok (.ldiv, 1) := by decide +kernel
theorem dX12_partAmong_60 : decode cX12_partAmong 60 = .ok (.l2i, 1) := by decide +kernel
theorem dX12_partAmong_61 : decode cX12_partAmong 61 = .ok (.iastore, 1) := by decide +kernel
theorem dX12_partAmong_62 : decode cX12_partAmong 62 = .ok (.lload 6, 2) := by decide +kernel
theorem dX12_partAmong_64 : decode cX12_partAmong 64 = .ok (.aload_n 0, 1) := by decide +kernel
theorem dX12_partAmong_65 : decode cX12_partAmong 65 = .ok (.getfield 38, 3) := by decide +kernel
theorem dX12_partAmong_68 : decode cX12_partAmong 68 = .ok (.iload 8, 2) := by decide +kernel
theorem dX12_partAmong_70 : decode cX12_partAmong 70 = .ok (.iaload, 1) := by decide +kernel
theorem dX12_partAmong_71 : decode cX12_partAmong 71 = .ok (.i2l, 1) := by decide +kernel
theorem dX12_partAmong_72 : decode cX12_partAmong 72 = .ok (.lsub, 1) := by decide +kernel
theorem dX12_partAmong_73 : decode cX12_partAmong 73 = .ok (.lstore 6, 2) := by decide +kernel
theorem dX12_partAmong_75 : decode cX12_partAmong 75 = .ok (.aload_n 0, 1) := by decide +kernel
theorem dX12_partAmong_76 : decode cX12_partAmong 76 = .ok (.getfield 41, 3) := by decide +kernel
theorem dX12_partAmong_79 : decode cX12_partAmong 79 = .ok (.iload 8, 2) := by decide +kernel
end
section
theorem dX12_partAmong_81 : decode cX12_partAmong 81 = .ok (.iconst 0, 1) := by decide +kernel
theorem dX12_partAmong_82 : decode cX12_partAmong 82 = .ok (.bastore, 1) := by decide +kernel
theorem dX12_partAmong_83 : decode cX12_partAmong 83 = .ok (.iinc 8 1, 3) := by decide +kernel
theorem dX12_partAmong_86 : decode cX12_partAmong 86 = .ok (.goto (-50), 3) := by decide +kernel
theorem dX12_partAmong_89 : decode cX12_partAmong 89 = .ok (.lload 6, 2) := by decide +kernel
theorem dX12_partAmong_91 : decode cX12_partAmong 91 = .ok (.lconst 0, 1) := by decide +kernel
theorem dX12_partAmong_92 : decode cX12_partAmong 92 = .ok (.lcmp, 1) := by decide +kernel
theorem dX12_partAmong_93 : decode cX12_partAmong 93 = .ok (.ifCond .le 98, 3) := by decide +kernel
theorem dX12_partAmong_96 : decode cX12_partAmong 96 = .ok (.iconst (-1), 1) := by decide +kernel
theorem dX12_partAmong_97 : decode cX12_partAmong 97 = .ok (.istore 8, 2) := by decide +kernel
theorem dX12_partAmong_99 : decode cX12_partAmong 99 = .ok (.lconst 0, 1) := by decide +kernel
theorem dX12_partAmong_100 : decode cX12_partAmong 100 = .ok (.lstore 9, 2) := by decide +kernel
theorem dX12_partAmong_102 : decode cX12_partAmong 102 = .ok (.iconst 0, 1) := by decide +kernel
theorem dX12_partAmong_103 : decode cX12_partAmong 103 = .ok (.istore 11, 2) := by decide +kernel
theorem dX12_partAmong_105 : decode cX12_partAmong 105 = .ok (.iload 11, 2) := by decide +kernel
theorem dX12_partAmong_107 : decode cX12_partAmong 107 = .ok (.iload_n 3, 1) := by decide +kernel
theorem dX12_partAmong_108 : decode cX12_partAmong 108 = .ok (.if_icmp .ge 55, 3) := by decide +kernel
theorem dX12_partAmong_111 : decode cX12_partAmong 111 = .ok (.lload_n 1, 1) := by decide +kernel
theorem dX12_partAmong_112 : decode cX12_partAmong 112 = .ok (.aload_n 0, 1) := by decide +kernel
theorem dX12_partAmong_113 : decode cX12_partAmong 113 = .ok (.getfield 34, 3) := by decide +kernel
theorem dX12_partAmong_116 : decode cX12_partAmong 116 = .ok (.iload 11, 2) := by decide +kernel
theorem dX12_partAmong_118 : decode cX12_partAmong 118 = .ok (.laload, 1) := by decide +kernel
theorem dX12_partAmong_119 : decode cX12_partAmong 119 = .ok (.lmul, 1) := by decide +kernel
theorem dX12_partAmong_120 : decode cX12_partAmong 120 = .ok (.lload 4, 2) := by decide +kernel
theorem dX12_partAmong_122 : decode cX12_partAmong 122 = .ok (.lrem, 1) := by decide +kernel
theorem dX12_partAmong_123 : decode cX12_partAmong 123 = .ok (.lstore 12, 2) := by decide +kernel
theorem dX12_partAmong_125 : decode cX12_partAmong 125 = .ok (.aload_n 0, 1) := by decide +kernel
theorem dX12_partAmong_126 : decode cX12_partAmong 126 = .ok (.getfield 41, 3) := by decide +kernel
theorem dX12_partAmong_129 : decode cX12_partAmong 129 = .ok (.iload 11, 2) := by decide +kernel
theorem dX12_partAmong_131 : decode cX12_partAmong 131 = .ok (.baload, 1) := by decide +kernel
theorem dX12_partAmong_132 : decode cX12_partAmong 132 = .ok (.ifCond .ne 25, 3) := by decide +kernel
theorem dX12_partAmong_135 : decode cX12_partAmong 135 = .ok (.iload 8, 2) := by decide +kernel
theorem dX12_partAmong_137 : decode cX12_partAmong 137 = .ok (.iconst (-1), 1) := by decide +kernel
theorem dX12_partAmong_138 : decode cX12_partAmong 138 = .ok (.if_icmp .eq 11, 3) := by decide +kernel
theorem dX12_partAmong_141 : decode cX12_partAmong 141 = .ok (.lload 12, 2) := by decide +kernel
theorem dX12_partAmong_143 : decode cX12_partAmong 143 = .ok (.lload 9, 2) := by decide +kernel
theorem dX12_partAmong_145 : decode cX12_partAmong 145 = .ok (.lcmp, 1) := by decide +kernel
theorem dX12_partAmong_146 : decode cX12_partAmong 146 = .ok (.ifCond .le 11, 3) := by decide +kernel
theorem dX12_partAmong_149 : decode cX12_partAmong 149 = .ok (.iload 11, 2) := by decide +kernel
theorem dX12_partAmong_151 : decode cX12_partAmong 151 = .ok (.istore 8, 2) := by decide +kernel
theorem dX12_partAmong_153 : decode cX12_partAmong 153 = .ok (.lload 12, 2) := by decide +kernel
theorem dX12_partAmong_155 : decode cX12_partAmong 155 = .ok (.lstore 9, 2) := by decide +kernel
theorem dX12_partAmong_157 : decode cX12_partAmong 157 = .ok (.iinc 11 1, 3) := by decide +kernel
theorem dX12_partAmong_160 : decode cX12_partAmong 160 = .ok (.goto (-55), 3) := by decide +kernel
theorem dX12_partAmong_163 : decode cX12_partAmong 163 = .ok (.aload_n 0, 1) := by decide +kernel
theorem dX12_partAmong_164 : decode cX12_partAmong 164 = .ok (.getfield 41, 3) := by decide +kernel
theorem dX12_partAmong_167 : decode cX12_partAmong 167 = .ok (.iload 8, 2) := by decide +kernel
theorem dX12_partAmong_169 : decode cX12_partAmong 169 = .ok (.iconst 1, 1) := by decide +kernel
theorem dX12_partAmong_170 : decode cX12_partAmong 170 = .ok (.bastore, 1) := by decide +kernel
theorem dX12_partAmong_171 : decode cX12_partAmong 171 = .ok (.aload_n 0, 1) := by decide +kernel
theorem dX12_partAmong_172 : decode cX12_partAmong 172 = .ok (.getfield 38, 3) := by decide +kernel
theorem dX12_partAmong_175 : decode cX12_partAmong 175 = .ok (.iload 8, 2) := by decide +kernel
theorem dX12_partAmong_177 : decode cX12_partAmong 177 = .ok (.dup2, 1) := by decide +kernel
theorem dX12_partAmong_178 : decode cX12_partAmong 178 = .ok (.iaload, 1) := by decide +kernel
theorem dX12_partAmong_179 : decode cX12_partAmong 179 = .ok (.iconst 1, 1) := by decide +kernel
theorem dX12_partAmong_180 : decode cX12_partAmong 180 = .ok (.iadd, 1) := by decide +kernel
theorem dX12_partAmong_181 : decode cX12_partAmong 181 = .ok (.iastore, 1) := by decide +kernel
theorem dX12_partAmong_182 : decode cX12_partAmong 182 = .ok (.lload 6, 2) := by decide +kernel
theorem dX12_partAmong_184 : decode cX12_partAmong 184 = .ok (.lconst 1, 1) := by decide +kernel
theorem dX12_partAmong_185 : decode cX12_partAmong 185 = .ok (.lsub, 1) := by decide +kernel
theorem dX12_partAmong_186 : decode cX12_partAmong 186 = .ok (.lstore 6, 2) := by decide +kernel
theorem dX12_partAmong_188 : decode cX12_partAmong 188 = .ok (.goto (-99), 3) := by decide +kernel
theorem dX12_partAmong_191 : decode cX12_partAmong 191 = .ok (.return_, 1) := by decide +kernel
theorem dX12_partBy_0 : decode cX12_partBy 0 = .ok (.iconst 0, 1) := by decide +kernel
theorem dX12_partBy_1 : decode cX12_partBy 1 = .ok (.istore_n 3, 1) := by decide +kernel
theorem dX12_partBy_2 : decode cX12_partBy 2 = .ok (.iload_n 3, 1) := by decide +kernel
theorem dX12_partBy_3 : decode cX12_partBy 3 = .ok (.aload_n 2, 1) := by decide +kernel
theorem dX12_partBy_4 : decode cX12_partBy 4 = .ok (.arraylength, 1) := by decide +kernel
theorem dX12_partBy_5 : decode cX12_partBy 5 = .ok (.if_icmp .ge 26, 3) := by decide +kernel
theorem dX12_partBy_8 : decode cX12_partBy 8 = .ok (.aload_n 0, 1) := by decide +kernel
theorem dX12_partBy_9 : decode cX12_partBy 9 = .ok (.getfield 34, 3) := by decide +kernel
theorem dX12_partBy_12 : decode cX12_partBy 12 = .ok (.iload_n 3, 1) := by decide +kernel
theorem dX12_partBy_13 : decode cX12_partBy 13 = .ok (.aload_n 2, 1) := by decide +kernel
theorem dX12_partBy_14 : decode cX12_partBy 14 = .ok (.iload_n 3, 1) := by decide +kernel
theorem dX12_partBy_15 : decode cX12_partBy 15 = .ok (.iaload, 1) := by decide +kernel
theorem dX12_partBy_16 : decode cX12_partBy 16 = .ok (.i2l, 1) := by decide +kernel
theorem dX12_partBy_17 : decode cX12_partBy 17 = .ok (.lastore, 1) := by decide +kernel
theorem dX12_partBy_18 : decode cX12_partBy 18 = .ok (.aload_n 0, 1) := by decide +kernel
theorem dX12_partBy_19 : decode cX12_partBy 19 = .ok (.getfield 38, 3) := by decide +kernel
theorem dX12_partBy_22 : decode cX12_partBy 22 = .ok (.iload_n 3, 1) := by decide +kernel
theorem dX12_partBy_23 : decode cX12_partBy 23 = .ok (.iconst 0, 1) := by decide +kernel
theorem dX12_partBy_24 : decode cX12_partBy 24 = .ok (.iastore, 1) := by decide +kernel
theorem dX12_partBy_25 : decode cX12_partBy 25 = .ok (.iinc 3 1, 3) := by decide +kernel
theorem dX12_partBy_28 : decode cX12_partBy 28 = .ok (.goto (-26), 3) := by decide +kernel
theorem dX12_partBy_31 : decode cX12_partBy 31 = .ok (.iload_n 1, 1) := by decide +kernel
theorem dX12_partBy_32 : decode cX12_partBy 32 = .ok (.ifCond .le 11, 3) := by decide +kernel
theorem dX12_partBy_35 : decode cX12_partBy 35 = .ok (.aload_n 0, 1) := by decide +kernel
theorem dX12_partBy_36 : decode cX12_partBy 36 = .ok (.iload_n 1, 1) := by decide +kernel
theorem dX12_partBy_37 : decode cX12_partBy 37 = .ok (.i2l, 1) := by decide +kernel
theorem dX12_partBy_38 : decode cX12_partBy 38 = .ok (.aload_n 2, 1) := by decide +kernel
theorem dX12_partBy_39 : decode cX12_partBy 39 = .ok (.arraylength, 1) := by decide +kernel
theorem dX12_partBy_40 : decode cX12_partBy 40 = .ok (.invokevirtual 173, 3) := by decide +kernel
theorem dX12_partBy_43 : decode cX12_partBy 43 = .ok (.return_, 1) := by decide +kernel
theorem dX12_bog_0 : decode cX12_bog 0 = .ok (.aload_n 0, 1) := by decide +kernel
theorem dX12_bog_1 : decode cX12_bog 1 = .ok (.getfield 166, 3) := by decide +kernel
theorem dX12_bog_4 : decode cX12_bog 4 = .ok (.bipush 12, 2) := by decide +kernel
theorem dX12_bog_6 : decode cX12_bog 6 = .ok (.if_icmp .eq 34, 3) := by decide +kernel
theorem dX12_bog_9 : decode cX12_bog 9 = .ok (.iload_n 1, 1) := by decide +kernel
theorem dX12_bog_10 : decode cX12_bog 10 = .ok (.iconst 0, 1) := by decide +kernel
theorem dX12_bog_11 : decode cX12_bog 11 = .ok (.ldc 177, 2) := by decide +kernel
theorem dX12_bog_13 : decode cX12_bog 13 = .ok (.invokestatic 169, 3) := by decide +kernel
theorem dX12_bog_16 : decode cX12_bog 16 = .ok (.ifCond .eq 24, 3) := by decide +kernel
theorem dX12_bog_19 : decode cX12_bog 19 = .ok (.iload_n 2, 1) := by decide +kernel
theorem dX12_bog_20 : decode cX12_bog 20 = .ok (.iconst 0, 1) := by decide +kernel
theorem dX12_bog_21 : decode cX12_bog 21 = .ok (.sipush 5000, 3) := by decide +kernel
theorem dX12_bog_24 : decode cX12_bog 24 = .ok (.invokestatic 169, 3) := by decide +kernel
theorem dX12_bog_27 : decode cX12_bog 27 = .ok (.ifCond .eq 13, 3) := by decide +kernel
theorem dX12_bog_30 : decode cX12_bog 30 = .ok (.iload_n 3, 1) := by decide +kernel
theorem dX12_bog_31 : decode cX12_bog 31 = .ok (.iconst 0, 1) := by decide +kernel
theorem dX12_bog_32 : decode cX12_bog 32 = .ok (.bipush 20, 2) := by decide +kernel
theorem dX12_bog_34 : decode cX12_bog 34 = .ok (.invokestatic 169, 3) := by decide +kernel
theorem dX12_bog_37 : decode cX12_bog 37 = .ok (.ifCond .ne 5, 3) := by decide +kernel
theorem dX12_bog_40 : decode cX12_bog 40 = .ok (.iconst (-1), 1) := by decide +kernel
theorem dX12_bog_41 : decode cX12_bog 41 = .ok (.ireturn, 1) := by decide +kernel
theorem dX12_bog_42 : decode cX12_bog 42 = .ok (.aload_n 0, 1) := by decide +kernel
theorem dX12_bog_43 : decode cX12_bog 43 = .ok (.getfield 9, 3) := by decide +kernel
theorem dX12_bog_46 : decode cX12_bog 46 = .ok (.aload_n 0, 1) := by decide +kernel
theorem dX12_bog_47 : decode cX12_bog 47 = .ok (.getfield 166, 3) := by decide +kernel
theorem dX12_bog_50 : decode cX12_bog 50 = .ok (.iload_n 1, 1) := by decide +kernel
theorem dX12_bog_51 : decode cX12_bog 51 = .ok (.iastore, 1) := by decide +kernel
theorem dX12_bog_52 : decode cX12_bog 52 = .ok (.aload_n 0, 1) := by decide +kernel
theorem dX12_bog_53 : decode cX12_bog 53 = .ok (.getfield 13, 3) := by decide +kernel
theorem dX12_bog_56 : decode cX12_bog 56 = .ok (.aload_n 0, 1) := by decide +kernel
theorem dX12_bog_57 : decode cX12_bog 57 = .ok (.getfield 166, 3) := by decide +kernel
theorem dX12_bog_60 : decode cX12_bog 60 = .ok (.iload_n 2, 1) := by decide +kernel
theorem dX12_bog_61 : decode cX12_bog 61 = .ok (.iastore, 1) := by decide +kernel
theorem dX12_bog_62 : decode cX12_bog 62 = .ok (.aload_n 0, 1) := by decide +kernel
theorem dX12_bog_63 : decode cX12_bog 63 = .ok (.getfield 16, 3) := by decide +kernel
theorem dX12_bog_66 : decode cX12_bog 66 = .ok (.aload_n 0, 1) := by decide +kernel
theorem dX12_bog_67 : decode cX12_bog 67 = .ok (.getfield 166, 3) := by decide +kernel
theorem dX12_bog_70 : decode cX12_bog 70 = .ok (.iload_n 3, 1) := by decide +kernel
theorem dX12_bog_71 : decode cX12_bog 71 = .ok (.iastore, 1) := by decide +kernel
theorem dX12_bog_72 : decode cX12_bog 72 = .ok (.aload_n 0, 1) := by decide +kernel
theorem dX12_bog_73 : decode cX12_bog 73 = .ok (.getfield 19, 3) := by decide +kernel
theorem dX12_bog_76 : decode cX12_bog 76 = .ok (.aload_n 0, 1) := by decide +kernel
theorem dX12_bog_77 : decode cX12_bog 77 = .ok (.getfield 166, 3) := by decide +kernel
theorem dX12_bog_80 : decode cX12_bog 80 = .ok (.iconst 0, 1) := by decide +kernel
theorem dX12_bog_81 : decode cX12_bog 81 = .ok (.iastore, 1) := by decide +kernel
theorem dX12_bog_82 : decode cX12_bog 82 = .ok (.aload_n 0, 1) := by decide +kernel
theorem dX12_bog_83 : decode cX12_bog 83 = .ok (.getfield 22, 3) := by decide +kernel
theorem dX12_bog_86 : decode cX12_bog 86 = .ok (.aload_n 0, 1) := by decide +kernel
theorem dX12_bog_87 : decode cX12_bog 87 = .ok (.getfield 166, 3) := by decide +kernel
theorem dX12_bog_90 : decode cX12_bog 90 = .ok (.sipush 1000, 3) := by decide +kernel
theorem dX12_bog_93 : decode cX12_bog 93 = .ok (.iastore, 1) := by decide +kernel
theorem dX12_bog_94 : decode cX12_bog 94 = .ok (.aload_n 0, 1) := by decide +kernel
theorem dX12_bog_95 : decode cX12_bog 95 = .ok (.getfield 25, 3) := by decide +kernel
theorem dX12_bog_98 : decode cX12_bog 98 = .ok (.aload_n 0, 1) := by decide +kernel
theorem dX12_bog_99 : decode cX12_bog 99 = .ok (.getfield 166, 3) := by decide +kernel
theorem dX12_bog_102 : decode cX12_bog 102 = .ok (.iconst (-1), 1) := by decide +kernel
theorem dX12_bog_103 : decode cX12_bog 103 = .ok (.iastore, 1) := by decide +kernel
theorem dX12_bog_104 : decode cX12_bog 104 = .ok (.aload_n 0, 1) := by decide +kernel
theorem dX12_bog_105 : decode cX12_bog 105 = .ok (.dup, 1) := by decide +kernel
theorem dX12_bog_106 : decode cX12_bog 106 = .ok (.getfield 166, 3) := by decide +kernel
theorem dX12_bog_109 : decode cX12_bog 109 = .ok (.iconst 1, 1) := by decide +kernel
theorem dX12_bog_110 : decode cX12_bog 110 = .ok (.iadd, 1) := by decide +kernel
theorem dX12_bog_111 : decode cX12_bog 111 = .ok (.putfield 166, 3) := by decide +kernel
theorem dX12_bog_114 : decode cX12_bog 114 = .ok (.aload_n 0, 1) := by decide +kernel
theorem dX12_bog_115 : decode cX12_bog 115 = .ok (.getfield 166, 3) := by decide +kernel
theorem dX12_bog_118 : decode cX12_bog 118 = .ok (.iconst 1, 1) := by decide +kernel
theorem dX12_bog_119 : decode cX12_bog 119 = .ok (.isub, 1) := by decide +kernel
theorem dX12_bog_120 : decode cX12_bog 120 = .ok (.ireturn, 1) := by decide +kernel
theorem dX12_test_0 : decode cX12_test 0 = .ok (.aload_n 0, 1) := by decide +kernel
theorem dX12_test_1 : decode cX12_test 1 = .ok (.iload_n 1, 1) := by decide +kernel
theorem dX12_test_2 : decode cX12_test 2 = .ok (.invokevirtual 178, 3) := by decide +kernel
theorem dX12_test_5 : decode cX12_test 5 = .ok (.ifCond .eq 45, 3) := by decide +kernel
theorem dX12_test_8 : decode cX12_test 8 = .ok (.iload_n 2, 1) := by decide +kernel
theorem dX12_test_9 : decode cX12_test 9 = .ok (.iconst 0, 1) := by decide +kernel
theorem dX12_test_10 : decode cX12_test 10 = .ok (.sipush 1000, 3) := by decide +kernel
theorem dX12_test_13 : decode cX12_test 13 = .ok (.invokestatic 169, 3) := by decide +kernel
theorem dX12_test_16 : decode cX12_test 16 = .ok (.ifCond .eq 34, 3) := by decide +kernel
theorem dX12_test_19 : decode cX12_test 19 = .ok (.iload_n 3, 1) := by decide +kernel
theorem dX12_test_20 : decode cX12_test 20 = .ok (.iload_n 2, 1) := by decide +kernel
theorem dX12_test_21 : decode cX12_test 21 = .ok (.sipush 1000, 3) := by decide +kernel
theorem dX12_test_24 : decode cX12_test 24 = .ok (.invokestatic 169, 3) := by decide +kernel
theorem dX12_test_27 : decode cX12_test 27 = .ok (.ifCond .eq 23, 3) := by decide +kernel
theorem dX12_test_30 : decode cX12_test 30 = .ok (.iload_n 2, 1) := by decide +kernel
theorem dX12_test_31 : decode cX12_test 31 = .ok (.aload_n 0, 1) := by decide +kernel
theorem dX12_test_32 : decode cX12_test 32 = .ok (.getfield 22, 3) := by decide +kernel
theorem dX12_test_35 : decode cX12_test 35 = .ok (.iload_n 1, 1) := by decide +kernel
theorem dX12_test_36 : decode cX12_test 36 = .ok (.iaload, 1) := by decide +kernel
theorem dX12_test_37 : decode cX12_test 37 = .ok (.if_icmp .gt 13, 3) := by decide +kernel
theorem dX12_test_40 : decode cX12_test 40 = .ok (.iload_n 3, 1) := by decide +kernel
theorem dX12_test_41 : decode cX12_test 41 = .ok (.aload_n 0, 1) := by decide +kernel
theorem dX12_test_42 : decode cX12_test 42 = .ok (.getfield 19, 3) := by decide +kernel
theorem dX12_test_45 : decode cX12_test 45 = .ok (.iload_n 1, 1) := by decide +kernel
theorem dX12_test_46 : decode cX12_test 46 = .ok (.iaload, 1) := by decide +kernel
theorem dX12_test_47 : decode cX12_test 47 = .ok (.if_icmp .ge 5, 3) := by decide +kernel
theorem dX12_test_50 : decode cX12_test 50 = .ok (.iconst 0, 1) := by decide +kernel
theorem dX12_test_51 : decode cX12_test 51 = .ok (.ireturn, 1) := by decide +kernel
theorem dX12_test_52 : decode cX12_test 52 = .ok (.aload_n 0, 1) := by decide +kernel
theorem dX12_test_53 : decode cX12_test 53 = .ok (.getfield 19, 3) := by decide +kernel
theorem dX12_test_56 : decode cX12_test 56 = .ok (.iload_n 1, 1) := by decide +kernel
theorem dX12_test_57 : decode cX12_test 57 = .ok (.aload_n 0, 1) := by decide +kernel
theorem dX12_test_58 : decode cX12_test 58 = .ok (.getfield 19, 3) := by decide +kernel
theorem dX12_test_61 : decode cX12_test 61 = .ok (.iload_n 1, 1) := by decide +kernel
theorem dX12_test_62 : decode cX12_test 62 = .ok (.iaload, 1) := by decide +kernel
theorem dX12_test_63 : decode cX12_test 63 = .ok (.iload_n 2, 1) := by decide +kernel
theorem dX12_test_64 : decode cX12_test 64 = .ok (.invokestatic 182, 3) := by decide +kernel
theorem dX12_test_67 : decode cX12_test 67 = .ok (.iastore, 1) := by decide +kernel
theorem dX12_test_68 : decode cX12_test 68 = .ok (.aload_n 0, 1) := by decide +kernel
theorem dX12_test_69 : decode cX12_test 69 = .ok (.getfield 22, 3) := by decide +kernel
theorem dX12_test_72 : decode cX12_test 72 = .ok (.iload_n 1, 1) := by decide +kernel
theorem dX12_test_73 : decode cX12_test 73 = .ok (.aload_n 0, 1) := by decide +kernel
theorem dX12_test_74 : decode cX12_test 74 = .ok (.getfield 22, 3) := by decide +kernel
theorem dX12_test_77 : decode cX12_test 77 = .ok (.iload_n 1, 1) := by decide +kernel
theorem dX12_test_78 : decode cX12_test 78 = .ok (.iaload, 1) := by decide +kernel
theorem dX12_test_79 : decode cX12_test 79 = .ok (.iload_n 3, 1) := by decide +kernel
theorem dX12_test_80 : decode cX12_test 80 = .ok (.invokestatic 188, 3) := by decide +kernel
theorem dX12_test_83 : decode cX12_test 83 = .ok (.iastore, 1) := by decide +kernel
theorem dX12_test_84 : decode cX12_test 84 = .ok (.iconst 1, 1) := by decide +kernel
theorem dX12_test_85 : decode cX12_test 85 = .ok (.ireturn, 1) := by decide +kernel
theorem dX12_dig_0 : decode cX12_dig 0 = .ok (.aload_n 0, 1) := by decide +kernel
theorem dX12_dig_1 : decode cX12_dig 1 = .ok (.iload_n 1, 1) := by decide +kernel
theorem dX12_dig_2 : decode cX12_dig 2 = .ok (.invokevirtual 178, 3) := by decide +kernel
theorem dX12_dig_5 : decode cX12_dig 5 = .ok (.ifCond .eq 18, 3) := by decide +kernel
theorem dX12_dig_8 : decode cX12_dig 8 = .ok (.iload_n 2, 1) := by decide +kernel
theorem dX12_dig_9 : decode cX12_dig 9 = .ok (.iconst 1, 1) := by decide +kernel
theorem dX12_dig_10 : decode cX12_dig 10 = .ok (.if_icmp .lt 13, 3) := by decide +kernel
theorem dX12_dig_13 : decode cX12_dig 13 = .ok (.iload_n 2, 1) := by decide +kernel
theorem dX12_dig_14 : decode cX12_dig 14 = .ok (.aload_n 0, 1) := by decide +kernel
theorem dX12_dig_15 : decode cX12_dig 15 = .ok (.getfield 9, 3) := by decide +kernel
theorem dX12_dig_18 : decode cX12_dig 18 = .ok (.iload_n 1, 1) := by decide +kernel
theorem dX12_dig_19 : decode cX12_dig 19 = .ok (.iaload, 1) := by decide +kernel
theorem dX12_dig_20 : decode cX12_dig 20 = .ok (.if_icmp .le 5, 3) := by decide +kernel
theorem dX12_dig_23 : decode cX12_dig 23 = .ok (.iconst (-1), 1) := by decide +kernel
theorem dX12_dig_24 : decode cX12_dig 24 = .ok (.ireturn, 1) := by decide +kernel
theorem dX12_dig_25 : decode cX12_dig 25 = .ok (.aload_n 0, 1) := by decide +kernel
theorem dX12_dig_26 : decode cX12_dig 26 = .ok (.getfield 25, 3) := by decide +kernel
theorem dX12_dig_29 : decode cX12_dig 29 = .ok (.iload_n 1, 1) := by decide +kernel
theorem dX12_dig_30 : decode cX12_dig 30 = .ok (.iaload, 1) := by decide +kernel
theorem dX12_dig_31 : decode cX12_dig 31 = .ok (.iconst (-1), 1) := by decide +kernel
theorem dX12_dig_32 : decode cX12_dig 32 = .ok (.if_icmp .eq 36, 3) := by decide +kernel
theorem dX12_dig_35 : decode cX12_dig 35 = .ok (.aload_n 0, 1) := by decide +kernel
theorem dX12_dig_36 : decode cX12_dig 36 = .ok (.getfield 25, 3) := by decide +kernel
theorem dX12_dig_39 : decode cX12_dig 39 = .ok (.iload_n 1, 1) := by decide +kernel
theorem dX12_dig_40 : decode cX12_dig 40 = .ok (.iaload, 1) := by decide +kernel
theorem dX12_dig_41 : decode cX12_dig 41 = .ok (.aload_n 0, 1) := by decide +kernel
theorem dX12_dig_42 : decode cX12_dig 42 = .ok (.getfield 191, 3) := by decide +kernel
theorem dX12_dig_45 : decode cX12_dig 45 = .ok (.if_icmp .eq 23, 3) := by decide +kernel
theorem dX12_dig_48 : decode cX12_dig 48 = .ok (.aload_n 0, 1) := by decide +kernel
theorem dX12_dig_49 : decode cX12_dig 49 = .ok (.getfield 191, 3) := by decide +kernel
theorem dX12_dig_52 : decode cX12_dig 52 = .ok (.aload_n 0, 1) := by decide +kernel
theorem dX12_dig_53 : decode cX12_dig 53 = .ok (.getfield 25, 3) := by decide +kernel
theorem dX12_dig_56 : decode cX12_dig 56 = .ok (.iload_n 1, 1) := by decide +kernel
theorem dX12_dig_57 : decode cX12_dig 57 = .ok (.iaload, 1) := by decide +kernel
theorem dX12_dig_58 : decode cX12_dig 58 = .ok (.isub, 1) := by decide +kernel
theorem dX12_dig_59 : decode cX12_dig 59 = .ok (.aload_n 0, 1) := by decide +kernel
theorem dX12_dig_60 : decode cX12_dig 60 = .ok (.getfield 16, 3) := by decide +kernel
theorem dX12_dig_63 : decode cX12_dig 63 = .ok (.iload_n 1, 1) := by decide +kernel
theorem dX12_dig_64 : decode cX12_dig 64 = .ok (.iaload, 1) := by decide +kernel
theorem dX12_dig_65 : decode cX12_dig 65 = .ok (.if_icmp .lt 7, 3) := by decide +kernel
theorem dX12_dig_68 : decode cX12_dig 68 = .ok (.iconst 1, 1) := by decide +kernel
theorem dX12_dig_69 : decode cX12_dig 69 = .ok (.goto 4, 3) := by decide +kernel
theorem dX12_dig_72 : decode cX12_dig 72 = .ok (.iconst 0, 1) := by decide +kernel
theorem dX12_dig_73 : decode cX12_dig 73 = .ok (.istore_n 3, 1) := by decide +kernel
theorem dX12_dig_74 : decode cX12_dig 74 = .ok (.iload_n 3, 1) := by decide +kernel
theorem dX12_dig_75 : decode cX12_dig 75 = .ok (.ifCond .ne 5, 3) := by decide +kernel
theorem dX12_dig_78 : decode cX12_dig 78 = .ok (.iconst (-1), 1) := by decide +kernel
theorem dX12_dig_79 : decode cX12_dig 79 = .ok (.ireturn, 1) := by decide +kernel
theorem dX12_dig_80 : decode cX12_dig 80 = .ok (.aload_n 0, 1) := by decide +kernel
theorem dX12_dig_81 : decode cX12_dig 81 = .ok (.getfield 9, 3) := by decide +kernel
theorem dX12_dig_84 : decode cX12_dig 84 = .ok (.iload_n 1, 1) := by decide +kernel
theorem dX12_dig_85 : decode cX12_dig 85 = .ok (.dup2, 1) := by decide +kernel
theorem dX12_dig_86 : decode cX12_dig 86 = .ok (.iaload, 1) := by decide +kernel
theorem dX12_dig_87 : decode cX12_dig 87 = .ok (.iload_n 2, 1) := by decide +kernel
theorem dX12_dig_88 : decode cX12_dig 88 = .ok (.isub, 1) := by decide +kernel
theorem dX12_dig_89 : decode cX12_dig 89 = .ok (.iastore, 1) := by decide +kernel
theorem dX12_dig_90 : decode cX12_dig 90 = .ok (.aload_n 0, 1) := by decide +kernel
theorem dX12_dig_91 : decode cX12_dig 91 = .ok (.getfield 28, 3) := by decide +kernel
theorem dX12_dig_94 : decode cX12_dig 94 = .ok (.iload_n 1, 1) := by decide +kernel
theorem dX12_dig_95 : decode cX12_dig 95 = .ok (.dup2, 1) := by decide +kernel
theorem dX12_dig_96 : decode cX12_dig 96 = .ok (.iaload, 1) := by decide +kernel
theorem dX12_dig_97 : decode cX12_dig 97 = .ok (.iload_n 2, 1) := by decide +kernel
theorem dX12_dig_98 : decode cX12_dig 98 = .ok (.iadd, 1) := by decide +kernel
theorem dX12_dig_99 : decode cX12_dig 99 = .ok (.iastore, 1) := by decide +kernel
theorem dX12_dig_100 : decode cX12_dig 100 = .ok (.aload_n 0, 1) := by decide +kernel
theorem dX12_dig_101 : decode cX12_dig 101 = .ok (.getfield 25, 3) := by decide +kernel
theorem dX12_dig_104 : decode cX12_dig 104 = .ok (.iload_n 1, 1) := by decide +kernel
theorem dX12_dig_105 : decode cX12_dig 105 = .ok (.aload_n 0, 1) := by decide +kernel
theorem dX12_dig_106 : decode cX12_dig 106 = .ok (.getfield 191, 3) := by decide +kernel
theorem dX12_dig_109 : decode cX12_dig 109 = .ok (.iastore, 1) := by decide +kernel
theorem dX12_dig_110 : decode cX12_dig 110 = .ok (.aload_n 0, 1) := by decide +kernel
theorem dX12_dig_111 : decode cX12_dig 111 = .ok (.getfield 28, 3) := by decide +kernel
theorem dX12_dig_114 : decode cX12_dig 114 = .ok (.iload_n 1, 1) := by decide +kernel
theorem dX12_dig_115 : decode cX12_dig 115 = .ok (.iaload, 1) := by decide +kernel
theorem dX12_dig_116 : decode cX12_dig 116 = .ok (.ireturn, 1) := by decide +kernel
theorem dX12_coal_0 : decode cX12_coal 0 = .ok (.iload_n 1, 1) := by decide +kernel
theorem dX12_coal_1 : decode cX12_coal 1 = .ok (.iconst 0, 1) := by decide +kernel
theorem dX12_coal_2 : decode cX12_coal 2 = .ok (.bipush 7, 2) := by decide +kernel
theorem dX12_coal_4 : decode cX12_coal 4 = .ok (.invokestatic 169, 3) := by decide +kernel
theorem dX12_coal_7 : decode cX12_coal 7 = .ok (.ifCond .eq 27, 3) := by decide +kernel
theorem dX12_coal_10 : decode cX12_coal 10 = .ok (.iload_n 2, 1) := by decide +kernel
theorem dX12_coal_11 : decode cX12_coal 11 = .ok (.iconst 1, 1) := by decide +kernel
theorem dX12_coal_12 : decode cX12_coal 12 = .ok (.sipush 10000, 3) := by decide +kernel
theorem dX12_coal_15 : decode cX12_coal 15 = .ok (.invokestatic 169, 3) := by decide +kernel
theorem dX12_coal_18 : decode cX12_coal 18 = .ok (.ifCond .eq 16, 3) := by decide +kernel
theorem dX12_coal_21 : decode cX12_coal 21 = .ok (.aload_n 0, 1) := by decide +kernel
theorem dX12_coal_22 : decode cX12_coal 22 = .ok (.getfield 31, 3) := by decide +kernel
theorem dX12_coal_25 : decode cX12_coal 25 = .ok (.iload_n 1, 1) := by decide +kernel
theorem dX12_coal_26 : decode cX12_coal 26 = .ok (.iaload, 1) := by decide +kernel
theorem dX12_coal_27 : decode cX12_coal 27 = .ok (.iload_n 2, 1) := by decide +kernel
theorem dX12_coal_28 : decode cX12_coal 28 = .ok (.iadd, 1) := by decide +kernel
theorem dX12_coal_29 : decode cX12_coal 29 = .ok (.ldc 194, 2) := by decide +kernel
theorem dX12_coal_31 : decode cX12_coal 31 = .ok (.if_icmp .le 5, 3) := by decide +kernel
theorem dX12_coal_34 : decode cX12_coal 34 = .ok (.iconst (-1), 1) := by decide +kernel
theorem dX12_coal_35 : decode cX12_coal 35 = .ok (.ireturn, 1) := by decide +kernel
theorem dX12_coal_36 : decode cX12_coal 36 = .ok (.aload_n 0, 1) := by decide +kernel
theorem dX12_coal_37 : decode cX12_coal 37 = .ok (.getfield 31, 3) := by decide +kernel
theorem dX12_coal_40 : decode cX12_coal 40 = .ok (.iload_n 1, 1) := by decide +kernel
theorem dX12_coal_41 : decode cX12_coal 41 = .ok (.dup2, 1) := by decide +kernel
theorem dX12_coal_42 : decode cX12_coal 42 = .ok (.iaload, 1) := by decide +kernel
theorem dX12_coal_43 : decode cX12_coal 43 = .ok (.iload_n 2, 1) := by decide +kernel
theorem dX12_coal_44 : decode cX12_coal 44 = .ok (.iadd, 1) := by decide +kernel
theorem dX12_coal_45 : decode cX12_coal 45 = .ok (.iastore, 1) := by decide +kernel
theorem dX12_coal_46 : decode cX12_coal 46 = .ok (.aload_n 0, 1) := by decide +kernel
theorem dX12_coal_47 : decode cX12_coal 47 = .ok (.getfield 31, 3) := by decide +kernel
theorem dX12_coal_50 : decode cX12_coal 50 = .ok (.iload_n 1, 1) := by decide +kernel
theorem dX12_coal_51 : decode cX12_coal 51 = .ok (.iaload, 1) := by decide +kernel
theorem dX12_coal_52 : decode cX12_coal 52 = .ok (.ireturn, 1) := by decide +kernel
theorem dX12_year_0 : decode cX12_year 0 = .ok (.aload_n 0, 1) := by decide +kernel
theorem dX12_year_1 : decode cX12_year 1 = .ok (.getfield 191, 3) := by decide +kernel
theorem dX12_year_4 : decode cX12_year 4 = .ok (.bipush 100, 2) := by decide +kernel
theorem dX12_year_6 : decode cX12_year 6 = .ok (.if_icmp .eq 37, 3) := by decide +kernel
theorem dX12_year_9 : decode cX12_year 9 = .ok (.aload_n 0, 1) := by decide +kernel
theorem dX12_year_10 : decode cX12_year 10 = .ok (.getfield 45, 3) := by decide +kernel
theorem dX12_year_13 : decode cX12_year 13 = .ok (.invokestatic 195, 3) := by decide +kernel
theorem dX12_year_16 : decode cX12_year 16 = .ok (.ifCond .gt 27, 3) := by decide +kernel
theorem dX12_year_19 : decode cX12_year 19 = .ok (.aload_n 0, 1) := by decide +kernel
theorem dX12_year_20 : decode cX12_year 20 = .ok (.getfield 48, 3) := by decide +kernel
theorem dX12_year_23 : decode cX12_year 23 = .ok (.invokestatic 195, 3) := by decide +kernel
theorem dX12_year_26 : decode cX12_year 26 = .ok (.aload_n 0, 1) := by decide +kernel
theorem dX12_year_27 : decode cX12_year 27 = .ok (.getfield 199, 3) := by decide +kernel
theorem dX12_year_30 : decode cX12_year 30 = .ok (.if_icmp .gt 13, 3) := by decide +kernel
theorem dX12_year_33 : decode cX12_year 33 = .ok (.aload_n 0, 1) := by decide +kernel
theorem dX12_year_34 : decode cX12_year 34 = .ok (.getfield 51, 3) := by decide +kernel
theorem dX12_year_37 : decode cX12_year 37 = .ok (.invokestatic 195, 3) := by decide +kernel
theorem dX12_year_40 : decode cX12_year 40 = .ok (.ifCond .le 5, 3) := by decide +kernel
theorem dX12_year_43 : decode cX12_year 43 = .ok (.iconst (-1), 1) := by decide +kernel
theorem dX12_year_44 : decode cX12_year 44 = .ok (.ireturn, 1) := by decide +kernel
theorem dX12_year_45 : decode cX12_year 45 = .ok (.iconst 0, 1) := by decide +kernel
theorem dX12_year_46 : decode cX12_year 46 = .ok (.istore_n 1, 1) := by decide +kernel
theorem dX12_year_47 : decode cX12_year 47 = .ok (.iload_n 1, 1) := by decide +kernel
theorem dX12_year_48 : decode cX12_year 48 = .ok (.aload_n 0, 1) := by decide +kernel
theorem dX12_year_49 : decode cX12_year 49 = .ok (.getfield 166, 3) := by decide +kernel
theorem dX12_year_52 : decode cX12_year 52 = .ok (.if_icmp .ge 33, 3) := by decide +kernel
theorem dX12_year_55 : decode cX12_year 55 = .ok (.aload_n 0, 1) := by decide +kernel
theorem dX12_year_56 : decode cX12_year 56 = .ok (.getfield 9, 3) := by decide +kernel
theorem dX12_year_59 : decode cX12_year 59 = .ok (.iload_n 1, 1) := by decide +kernel
theorem dX12_year_60 : decode cX12_year 60 = .ok (.ldc 177, 2) := by decide +kernel
theorem dX12_year_62 : decode cX12_year 62 = .ok (.aload_n 0, 1) := by decide +kernel
theorem dX12_year_63 : decode cX12_year 63 = .ok (.getfield 9, 3) := by decide +kernel
theorem dX12_year_66 : decode cX12_year 66 = .ok (.iload_n 1, 1) := by decide +kernel
theorem dX12_year_67 : decode cX12_year 67 = .ok (.iaload, 1) := by decide +kernel
theorem dX12_year_68 : decode cX12_year 68 = .ok (.aload_n 0, 1) := by decide +kernel
theorem dX12_year_69 : decode cX12_year 69 = .ok (.getfield 13, 3) := by decide +kernel
theorem dX12_year_72 : decode cX12_year 72 = .ok (.iload_n 1, 1) := by decide +kernel
theorem dX12_year_73 : decode cX12_year 73 = .ok (.iaload, 1) := by decide +kernel
theorem dX12_year_74 : decode cX12_year 74 = .ok (.iadd, 1) := by decide +kernel
theorem dX12_year_75 : decode cX12_year 75 = .ok (.invokestatic 188, 3) := by decide +kernel
theorem dX12_year_78 : decode cX12_year 78 = .ok (.iastore, 1) := by decide +kernel
theorem dX12_year_79 : decode cX12_year 79 = .ok (.iinc 1 1, 3) := by decide +kernel
theorem dX12_year_82 : decode cX12_year 82 = .ok (.goto (-35), 3) := by decide +kernel
theorem dX12_year_85 : decode cX12_year 85 = .ok (.aload_n 0, 1) := by decide +kernel
theorem dX12_year_86 : decode cX12_year 86 = .ok (.dup, 1) := by decide +kernel
theorem dX12_year_87 : decode cX12_year 87 = .ok (.getfield 191, 3) := by decide +kernel
theorem dX12_year_90 : decode cX12_year 90 = .ok (.iconst 1, 1) := by decide +kernel
theorem dX12_year_91 : decode cX12_year 91 = .ok (.iadd, 1) := by decide +kernel
theorem dX12_year_92 : decode cX12_year 92 = .ok (.putfield 191, 3) := by decide +kernel
theorem dX12_year_95 : decode cX12_year 95 = .ok (.aload_n 0, 1) := by decide +kernel
theorem dX12_year_96 : decode cX12_year 96 = .ok (.getfield 191, 3) := by decide +kernel
theorem dX12_year_99 : decode cX12_year 99 = .ok (.ireturn, 1) := by decide +kernel
theorem dX12_water_0 : decode cX12_water 0 = .ok (.iload_n 1, 1) := by decide +kernel
theorem dX12_water_1 : decode cX12_water 1 = .ok (.iconst 0, 1) := by decide +kernel
theorem dX12_water_2 : decode cX12_water 2 = .ok (.bipush 9, 2) := by decide +kernel
theorem dX12_water_4 : decode cX12_water 4 = .ok (.invokestatic 169, 3) := by decide +kernel
theorem dX12_water_7 : decode cX12_water 7 = .ok (.ifCond .ne 5, 3) := by decide +kernel
theorem dX12_water_10 : decode cX12_water 10 = .ok (.iconst 0, 1) := by decide +kernel
theorem dX12_water_11 : decode cX12_water 11 = .ok (.ireturn, 1) := by decide +kernel
theorem dX12_water_12 : decode cX12_water 12 = .ok (.aload_n 0, 1) := by decide +kernel
theorem dX12_water_13 : decode cX12_water 13 = .ok (.iload_n 1, 1) := by decide +kernel
theorem dX12_water_14 : decode cX12_water 14 = .ok (.putfield 58, 3) := by decide +kernel
theorem dX12_water_17 : decode cX12_water 17 = .ok (.iconst 1, 1) := by decide +kernel
theorem dX12_water_18 : decode cX12_water 18 = .ok (.ireturn, 1) := by decide +kernel
theorem dX12_gap_0 : decode cX12_gap 0 = .ok (.iload_n 1, 1) := by decide +kernel
theorem dX12_gap_1 : decode cX12_gap 1 = .ok (.iconst 1, 1) := by decide +kernel
theorem dX12_gap_2 : decode cX12_gap 2 = .ok (.bipush 30, 2) := by decide +kernel
theorem dX12_gap_4 : decode cX12_gap 4 = .ok (.invokestatic 169, 3) := by decide +kernel
theorem dX12_gap_7 : decode cX12_gap 7 = .ok (.ifCond .ne 5, 3) := by decide +kernel
theorem dX12_gap_10 : decode cX12_gap 10 = .ok (.iconst 0, 1) := by decide +kernel
theorem dX12_gap_11 : decode cX12_gap 11 = .ok (.ireturn, 1) := by decide +kernel
theorem dX12_gap_12 : decode cX12_gap 12 = .ok (.aload_n 0, 1) := by decide +kernel
theorem dX12_gap_13 : decode cX12_gap 13 = .ok (.iload_n 1, 1) := by decide +kernel
theorem dX12_gap_14 : decode cX12_gap 14 = .ok (.putfield 61, 3) := by decide +kernel
theorem dX12_gap_17 : decode cX12_gap 17 = .ok (.iconst 1, 1) := by decide +kernel
theorem dX12_gap_18 : decode cX12_gap 18 = .ok (.ireturn, 1) := by decide +kernel
theorem dX12_charge_0 : decode cX12_charge 0 = .ok (.iload_n 1, 1) := by decide +kernel
theorem dX12_charge_1 : decode cX12_charge 1 = .ok (.iconst 0, 1) := by decide +kernel
theorem dX12_charge_2 : decode cX12_charge 2 = .ok (.sipush 5000, 3) := by decide +kernel
theorem dX12_charge_5 : decode cX12_charge 5 = .ok (.invokestatic 169, 3) := by decide +kernel
theorem dX12_charge_8 : decode cX12_charge 8 = .ok (.ifCond .eq 42, 3) := by decide +kernel
theorem dX12_charge_11 : decode cX12_charge 11 = .ok (.iload_n 2, 1) := by decide +kernel
theorem dX12_charge_12 : decode cX12_charge 12 = .ok (.iconst 0, 1) := by decide +kernel
theorem dX12_charge_13 : decode cX12_charge 13 = .ok (.sipush 5000, 3) := by decide +kernel
theorem dX12_charge_16 : decode cX12_charge 16 = .ok (.invokestatic 169, 3) := by decide +kernel
theorem dX12_charge_19 : decode cX12_charge 19 = .ok (.ifCond .eq 31, 3) := by decide +kernel
theorem dX12_charge_22 : decode cX12_charge 22 = .ok (.iload_n 1, 1) := by decide +kernel
theorem dX12_charge_23 : decode cX12_charge 23 = .ok (.iload_n 2, 1) := by decide +kernel
theorem dX12_charge_24 : decode cX12_charge 24 = .ok (.iadd, 1) := by decide +kernel
theorem dX12_charge_25 : decode cX12_charge 25 = .ok (.ifCond .eq 25, 3) := by decide +kernel
theorem dX12_charge_28 : decode cX12_charge 28 = .ok (.iload_n 1, 1) := by decide +kernel
theorem dX12_charge_29 : decode cX12_charge 29 = .ok (.aload_n 0, 1) := by decide +kernel
theorem dX12_charge_30 : decode cX12_charge 30 = .ok (.getfield 28, 3) := by decide +kernel
theorem dX12_charge_33 : decode cX12_charge 33 = .ok (.invokestatic 195, 3) := by decide +kernel
theorem dX12_charge_36 : decode cX12_charge 36 = .ok (.if_icmp .gt 14, 3) := by decide +kernel
theorem dX12_charge_39 : decode cX12_charge 39 = .ok (.iload_n 2, 1) := by decide +kernel
theorem dX12_charge_40 : decode cX12_charge 40 = .ok (.aload_n 0, 1) := by decide +kernel
theorem dX12_charge_41 : decode cX12_charge 41 = .ok (.getfield 31, 3) := by decide +kernel
theorem dX12_charge_44 : decode cX12_charge 44 = .ok (.invokestatic 195, 3) := by decide +kernel
theorem dX12_charge_47 : decode cX12_charge 47 = .ok (.if_icmp .le 5, 3) := by decide +kernel
theorem dX12_charge_50 : decode cX12_charge 50 = .ok (.iconst 0, 1) := by decide +kernel
theorem dX12_charge_51 : decode cX12_charge 51 = .ok (.ireturn, 1) := by decide +kernel
theorem dX12_charge_52 : decode cX12_charge 52 = .ok (.aload_n 0, 1) := by decide +kernel
theorem dX12_charge_53 : decode cX12_charge 53 = .ok (.iload_n 1, 1) := by decide +kernel
theorem dX12_charge_54 : decode cX12_charge 54 = .ok (.aload_n 0, 1) := by decide +kernel
theorem dX12_charge_55 : decode cX12_charge 55 = .ok (.getfield 28, 3) := by decide +kernel
theorem dX12_charge_58 : decode cX12_charge 58 = .ok (.invokevirtual 202, 3) := by decide +kernel
theorem dX12_charge_61 : decode cX12_charge 61 = .ok (.iconst 0, 1) := by decide +kernel
theorem dX12_charge_62 : decode cX12_charge 62 = .ok (.istore_n 3, 1) := by decide +kernel
theorem dX12_charge_63 : decode cX12_charge 63 = .ok (.iload_n 3, 1) := by decide +kernel
theorem dX12_charge_64 : decode cX12_charge 64 = .ok (.bipush 12, 2) := by decide +kernel
theorem dX12_charge_66 : decode cX12_charge 66 = .ok (.if_icmp .ge 39, 3) := by decide +kernel
theorem dX12_charge_69 : decode cX12_charge 69 = .ok (.aload_n 0, 1) := by decide +kernel
theorem dX12_charge_70 : decode cX12_charge 70 = .ok (.getfield 28, 3) := by decide +kernel
theorem dX12_charge_73 : decode cX12_charge 73 = .ok (.iload_n 3, 1) := by decide +kernel
theorem dX12_charge_74 : decode cX12_charge 74 = .ok (.dup2, 1) := by decide +kernel
theorem dX12_charge_75 : decode cX12_charge 75 = .ok (.iaload, 1) := by decide +kernel
theorem dX12_charge_76 : decode cX12_charge 76 = .ok (.aload_n 0, 1) := by decide +kernel
theorem dX12_charge_77 : decode cX12_charge 77 = .ok (.getfield 38, 3) := by decide +kernel
theorem dX12_charge_80 : decode cX12_charge 80 = .ok (.iload_n 3, 1) := by decide +kernel
theorem dX12_charge_81 : decode cX12_charge 81 = .ok (.iaload, 1) := by decide +kernel
theorem dX12_charge_82 : decode cX12_charge 82 = .ok (.isub, 1) := by decide +kernel
theorem dX12_charge_83 : decode cX12_charge 83 = .ok (.iastore, 1) := by decide +kernel
theorem dX12_charge_84 : decode cX12_charge 84 = .ok (.aload_n 0, 1) := by decide +kernel
theorem dX12_charge_85 : decode cX12_charge 85 = .ok (.getfield 45, 3) := by decide +kernel
theorem dX12_charge_88 : decode cX12_charge 88 = .ok (.iload_n 3, 1) := by decide +kernel
theorem dX12_charge_89 : decode cX12_charge 89 = .ok (.dup2, 1) := by decide +kernel
theorem dX12_charge_90 : decode cX12_charge 90 = .ok (.iaload, 1) := by decide +kernel
theorem dX12_charge_91 : decode cX12_charge 91 = .ok (.aload_n 0, 1) := by decide +kernel
theorem dX12_charge_92 : decode cX12_charge 92 = .ok (.getfield 38, 3) := by decide +kernel
theorem dX12_charge_95 : decode cX12_charge 95 = .ok (.iload_n 3, 1) := by decide +kernel
theorem dX12_charge_96 : decode cX12_charge 96 = .ok (.iaload, 1) := by decide +kernel
theorem dX12_charge_97 : decode cX12_charge 97 = .ok (.iadd, 1) := by decide +kernel
theorem dX12_charge_98 : decode cX12_charge 98 = .ok (.iastore, 1) := by decide +kernel
theorem dX12_charge_99 : decode cX12_charge 99 = .ok (.iinc 3 1, 3) := by decide +kernel
theorem dX12_charge_102 : decode cX12_charge 102 = .ok (.goto (-39), 3) := by decide +kernel
theorem dX12_charge_105 : decode cX12_charge 105 = .ok (.aload_n 0, 1) := by decide +kernel
theorem dX12_charge_106 : decode cX12_charge 106 = .ok (.iload_n 2, 1) := by decide +kernel
theorem dX12_charge_107 : decode cX12_charge 107 = .ok (.aload_n 0, 1) := by decide +kernel
theorem dX12_charge_108 : decode cX12_charge 108 = .ok (.getfield 31, 3) := by decide +kernel
theorem dX12_charge_111 : decode cX12_charge 111 = .ok (.invokevirtual 202, 3) := by decide +kernel
theorem dX12_charge_114 : decode cX12_charge 114 = .ok (.iconst 0, 1) := by decide +kernel
theorem dX12_charge_115 : decode cX12_charge 115 = .ok (.istore_n 3, 1) := by decide +kernel
theorem dX12_charge_116 : decode cX12_charge 116 = .ok (.iload_n 3, 1) := by decide +kernel
theorem dX12_charge_117 : decode cX12_charge 117 = .ok (.bipush 8, 2) := by decide +kernel
theorem dX12_charge_119 : decode cX12_charge 119 = .ok (.if_icmp .ge 39, 3) := by decide +kernel
theorem dX12_charge_122 : decode cX12_charge 122 = .ok (.aload_n 0, 1) := by decide +kernel
theorem dX12_charge_123 : decode cX12_charge 123 = .ok (.getfield 31, 3) := by decide +kernel
theorem dX12_charge_126 : decode cX12_charge 126 = .ok (.iload_n 3, 1) := by decide +kernel
theorem dX12_charge_127 : decode cX12_charge 127 = .ok (.dup2, 1) := by decide +kernel
theorem dX12_charge_128 : decode cX12_charge 128 = .ok (.iaload, 1) := by decide +kernel
theorem dX12_charge_129 : decode cX12_charge 129 = .ok (.aload_n 0, 1) := by decide +kernel
theorem dX12_charge_130 : decode cX12_charge 130 = .ok (.getfield 38, 3) := by decide +kernel
theorem dX12_charge_133 : decode cX12_charge 133 = .ok (.iload_n 3, 1) := by decide +kernel
theorem dX12_charge_134 : decode cX12_charge 134 = .ok (.iaload, 1) := by decide +kernel
theorem dX12_charge_135 : decode cX12_charge 135 = .ok (.isub, 1) := by decide +kernel
theorem dX12_charge_136 : decode cX12_charge 136 = .ok (.iastore, 1) := by decide +kernel
theorem dX12_charge_137 : decode cX12_charge 137 = .ok (.aload_n 0, 1) := by decide +kernel
theorem dX12_charge_138 : decode cX12_charge 138 = .ok (.getfield 48, 3) := by decide +kernel
theorem dX12_charge_141 : decode cX12_charge 141 = .ok (.iload_n 3, 1) := by decide +kernel
theorem dX12_charge_142 : decode cX12_charge 142 = .ok (.dup2, 1) := by decide +kernel
theorem dX12_charge_143 : decode cX12_charge 143 = .ok (.iaload, 1) := by decide +kernel
theorem dX12_charge_144 : decode cX12_charge 144 = .ok (.aload_n 0, 1) := by decide +kernel
theorem dX12_charge_145 : decode cX12_charge 145 = .ok (.getfield 38, 3) := by decide +kernel
theorem dX12_charge_148 : decode cX12_charge 148 = .ok (.iload_n 3, 1) := by decide +kernel
theorem dX12_charge_149 : decode cX12_charge 149 = .ok (.iaload, 1) := by decide +kernel
theorem dX12_charge_150 : decode cX12_charge 150 = .ok (.iadd, 1) := by decide +kernel
theorem dX12_charge_151 : decode cX12_charge 151 = .ok (.iastore, 1) := by decide +kernel
theorem dX12_charge_152 : decode cX12_charge 152 = .ok (.iinc 3 1, 3) := by decide +kernel
theorem dX12_charge_155 : decode cX12_charge 155 = .ok (.goto (-39), 3) := by decide +kernel
theorem dX12_charge_158 : decode cX12_charge 158 = .ok (.iconst 1, 1) := by decide +kernel
theorem dX12_charge_159 : decode cX12_charge 159 = .ok (.ireturn, 1) := by decide +kernel
theorem dX12_minute_0 : decode cX12_minute 0 = .ok (.aload_n 0, 1) := by decide +kernel
theorem dX12_minute_1 : decode cX12_minute 1 = .ok (.getfield 206, 3) := by decide +kernel
theorem dX12_minute_4 : decode cX12_minute 4 = .ok (.aload_n 0, 1) := by decide +kernel
theorem dX12_minute_5 : decode cX12_minute 5 = .ok (.getfield 61, 3) := by decide +kernel
theorem dX12_minute_8 : decode cX12_minute 8 = .ok (.irem, 1) := by decide +kernel
theorem dX12_minute_9 : decode cX12_minute 9 = .ok (.ifCond .ne 11, 3) := by decide +kernel
theorem dX12_minute_12 : decode cX12_minute 12 = .ok (.aload_n 0, 1) := by decide +kernel
theorem dX12_minute_13 : decode cX12_minute 13 = .ok (.aload_n 0, 1) := by decide +kernel
theorem dX12_minute_14 : decode cX12_minute 14 = .ok (.getfield 209, 3) := by decide +kernel
theorem dX12_minute_17 : decode cX12_minute 17 = .ok (.putfield 212, 3) := by decide +kernel
theorem dX12_minute_20 : decode cX12_minute 20 = .ok (.iconst 0, 1) := by decide +kernel
theorem dX12_minute_21 : decode cX12_minute 21 = .ok (.istore_n 1, 1) := by decide +kernel
theorem dX12_minute_22 : decode cX12_minute 22 = .ok (.iload_n 1, 1) := by decide +kernel
theorem dX12_minute_23 : decode cX12_minute 23 = .ok (.aload_n 0, 1) := by decide +kernel
theorem dX12_minute_24 : decode cX12_minute 24 = .ok (.getfield 215, 3) := by decide +kernel
theorem dX12_minute_27 : decode cX12_minute 27 = .ok (.if_icmp .ge 30, 3) := by decide +kernel
theorem dX12_minute_30 : decode cX12_minute 30 = .ok (.aload_n 0, 1) := by decide +kernel
theorem dX12_minute_31 : decode cX12_minute 31 = .ok (.iload_n 1, 1) := by decide +kernel
theorem dX12_minute_32 : decode cX12_minute 32 = .ok (.invokevirtual 218, 3) := by decide +kernel
theorem dX12_minute_35 : decode cX12_minute 35 = .ok (.ifCond .eq 16, 3) := by decide +kernel
theorem dX12_minute_38 : decode cX12_minute 38 = .ok (.aload_n 0, 1) := by decide +kernel
theorem dX12_minute_39 : decode cX12_minute 39 = .ok (.aload_n 0, 1) := by decide +kernel
theorem dX12_minute_40 : decode cX12_minute 40 = .ok (.getfield 76, 3) := by decide +kernel
theorem dX12_minute_43 : decode cX12_minute 43 = .ok (.iload_n 1, 1) := by decide +kernel
theorem dX12_minute_44 : decode cX12_minute 44 = .ok (.iaload, 1) := by decide +kernel
theorem dX12_minute_45 : decode cX12_minute 45 = .ok (.putfield 221, 3) := by decide +kernel
theorem dX12_minute_48 : decode cX12_minute 48 = .ok (.goto 9, 3) := by decide +kernel
theorem dX12_minute_51 : decode cX12_minute 51 = .ok (.iinc 1 1, 3) := by decide +kernel
theorem dX12_minute_54 : decode cX12_minute 54 = .ok (.goto (-32), 3) := by decide +kernel
theorem dX12_minute_57 : decode cX12_minute 57 = .ok (.aload_n 0, 1) := by decide +kernel
theorem dX12_minute_58 : decode cX12_minute 58 = .ok (.getfield 221, 3) := by decide +kernel
theorem dX12_minute_61 : decode cX12_minute 61 = .ok (.aload_n 0, 1) := by decide +kernel
theorem dX12_minute_62 : decode cX12_minute 62 = .ok (.getfield 58, 3) := by decide +kernel
theorem dX12_minute_65 : decode cX12_minute 65 = .ok (.invokestatic 188, 3) := by decide +kernel
theorem dX12_minute_68 : decode cX12_minute 68 = .ok (.aload_n 0, 1) := by decide +kernel
theorem dX12_minute_69 : decode cX12_minute 69 = .ok (.getfield 48, 3) := by decide +kernel
theorem dX12_minute_72 : decode cX12_minute 72 = .ok (.invokestatic 195, 3) := by decide +kernel
theorem dX12_minute_75 : decode cX12_minute 75 = .ok (.aload_n 0, 1) := by decide +kernel
theorem dX12_minute_76 : decode cX12_minute 76 = .ok (.getfield 199, 3) := by decide +kernel
theorem dX12_minute_79 : decode cX12_minute 79 = .ok (.isub, 1) := by decide +kernel
theorem dX12_minute_80 : decode cX12_minute 80 = .ok (.invokestatic 188, 3) := by decide +kernel
theorem dX12_minute_83 : decode cX12_minute 83 = .ok (.istore_n 1, 1) := by decide +kernel
theorem dX12_minute_84 : decode cX12_minute 84 = .ok (.aload_n 0, 1) := by decide +kernel
theorem dX12_minute_85 : decode cX12_minute 85 = .ok (.dup, 1) := by decide +kernel
theorem dX12_minute_86 : decode cX12_minute 86 = .ok (.getfield 199, 3) := by decide +kernel
theorem dX12_minute_89 : decode cX12_minute 89 = .ok (.iload_n 1, 1) := by decide +kernel
theorem dX12_minute_90 : decode cX12_minute 90 = .ok (.iadd, 1) := by decide +kernel
theorem dX12_minute_91 : decode cX12_minute 91 = .ok (.putfield 199, 3) := by decide +kernel
theorem dX12_minute_94 : decode cX12_minute 94 = .ok (.aload_n 0, 1) := by decide +kernel
theorem dX12_minute_95 : decode cX12_minute 95 = .ok (.dup, 1) := by decide +kernel
theorem dX12_minute_96 : decode cX12_minute 96 = .ok (.getfield 209, 3) := by decide +kernel
theorem dX12_minute_99 : decode cX12_minute 99 = .ok (.bipush 12, 2) := by decide +kernel
theorem dX12_minute_101 : decode cX12_minute 101 = .ok (.iload_n 1, 1) := by decide +kernel
theorem dX12_minute_102 : decode cX12_minute 102 = .ok (.imul, 1) := by decide +kernel
theorem dX12_minute_103 : decode cX12_minute 103 = .ok (.iadd, 1) := by decide +kernel
theorem dX12_minute_104 : decode cX12_minute 104 = .ok (.putfield 209, 3) := by decide +kernel
theorem dX12_minute_107 : decode cX12_minute 107 = .ok (.aload_n 0, 1) := by decide +kernel
theorem dX12_minute_108 : decode cX12_minute 108 = .ok (.iconst 0, 1) := by decide +kernel
theorem dX12_minute_109 : decode cX12_minute 109 = .ok (.aload_n 0, 1) := by decide +kernel
theorem dX12_minute_110 : decode cX12_minute 110 = .ok (.getfield 209, 3) := by decide +kernel
theorem dX12_minute_113 : decode cX12_minute 113 = .ok (.aload_n 0, 1) := by decide +kernel
theorem dX12_minute_114 : decode cX12_minute 114 = .ok (.getfield 209, 3) := by decide +kernel
theorem dX12_minute_117 : decode cX12_minute 117 = .ok (.bipush 40, 2) := by decide +kernel
theorem dX12_minute_119 : decode cX12_minute 119 = .ok (.idiv, 1) := by decide +kernel
theorem dX12_minute_120 : decode cX12_minute 120 = .ok (.isub, 1) := by decide +kernel
theorem dX12_minute_121 : decode cX12_minute 121 = .ok (.iconst 2, 1) := by decide +kernel
theorem dX12_minute_122 : decode cX12_minute 122 = .ok (.isub, 1) := by decide +kernel
theorem dX12_minute_123 : decode cX12_minute 123 = .ok (.invokestatic 182, 3) := by decide +kernel
theorem dX12_minute_126 : decode cX12_minute 126 = .ok (.putfield 209, 3) := by decide +kernel
theorem dX12_minute_129 : decode cX12_minute 129 = .ok (.aload_n 0, 1) := by decide +kernel
theorem dX12_minute_130 : decode cX12_minute 130 = .ok (.getfield 209, 3) := by decide +kernel
theorem dX12_minute_133 : decode cX12_minute 133 = .ok (.sipush 1000, 3) := by decide +kernel
theorem dX12_minute_136 : decode cX12_minute 136 = .ok (.if_icmp .lt 80, 3) := by decide +kernel
theorem dX12_minute_139 : decode cX12_minute 139 = .ok (.aload_n 0, 1) := by decide +kernel
theorem dX12_minute_140 : decode cX12_minute 140 = .ok (.getfield 209, 3) := by decide +kernel
theorem dX12_minute_143 : decode cX12_minute 143 = .ok (.sipush 1300, 3) := by decide +kernel
theorem dX12_minute_146 : decode cX12_minute 146 = .ok (.if_icmp .gt 70, 3) := by decide +kernel
theorem dX12_minute_149 : decode cX12_minute 149 = .ok (.iload_n 1, 1) := by decide +kernel
theorem dX12_minute_150 : decode cX12_minute 150 = .ok (.ifCond .le 66, 3) := by decide +kernel
theorem dX12_minute_153 : decode cX12_minute 153 = .ok (.aload_n 0, 1) := by decide +kernel
theorem dX12_minute_154 : decode cX12_minute 154 = .ok (.iconst 3, 1) := by decide +kernel
theorem dX12_minute_155 : decode cX12_minute 155 = .ok (.aload_n 0, 1) := by decide +kernel
theorem dX12_minute_156 : decode cX12_minute 156 = .ok (.getfield 45, 3) := by decide +kernel
theorem dX12_minute_159 : decode cX12_minute 159 = .ok (.invokestatic 195, 3) := by decide +kernel
theorem dX12_minute_162 : decode cX12_minute 162 = .ok (.invokestatic 188, 3) := by decide +kernel
theorem dX12_minute_165 : decode cX12_minute 165 = .ok (.aload_n 0, 1) := by decide +kernel
theorem dX12_minute_166 : decode cX12_minute 166 = .ok (.getfield 45, 3) := by decide +kernel
theorem dX12_minute_169 : decode cX12_minute 169 = .ok (.invokevirtual 202, 3) := by decide +kernel
theorem dX12_minute_172 : decode cX12_minute 172 = .ok (.iconst 0, 1) := by decide +kernel
theorem dX12_minute_173 : decode cX12_minute 173 = .ok (.istore_n 2, 1) := by decide +kernel
theorem dX12_minute_174 : decode cX12_minute 174 = .ok (.iload_n 2, 1) := by decide +kernel
theorem dX12_minute_175 : decode cX12_minute 175 = .ok (.bipush 12, 2) := by decide +kernel
theorem dX12_minute_177 : decode cX12_minute 177 = .ok (.if_icmp .ge 39, 3) := by decide +kernel
theorem dX12_minute_180 : decode cX12_minute 180 = .ok (.aload_n 0, 1) := by decide +kernel
theorem dX12_minute_181 : decode cX12_minute 181 = .ok (.getfield 45, 3) := by decide +kernel
theorem dX12_minute_184 : decode cX12_minute 184 = .ok (.iload_n 2, 1) := by decide +kernel
theorem dX12_minute_185 : decode cX12_minute 185 = .ok (.dup2, 1) := by decide +kernel
theorem dX12_minute_186 : decode cX12_minute 186 = .ok (.iaload, 1) := by decide +kernel
theorem dX12_minute_187 : decode cX12_minute 187 = .ok (.aload_n 0, 1) := by decide +kernel
theorem dX12_minute_188 : decode cX12_minute 188 = .ok (.getfield 38, 3) := by decide +kernel
theorem dX12_minute_191 : decode cX12_minute 191 = .ok (.iload_n 2, 1) := by decide +kernel
theorem dX12_minute_192 : decode cX12_minute 192 = .ok (.iaload, 1) := by decide +kernel
theorem dX12_minute_193 : decode cX12_minute 193 = .ok (.isub, 1) := by decide +kernel
theorem dX12_minute_194 : decode cX12_minute 194 = .ok (.iastore, 1) := by decide +kernel
theorem dX12_minute_195 : decode cX12_minute 195 = .ok (.aload_n 0, 1) := by decide +kernel
theorem dX12_minute_196 : decode cX12_minute 196 = .ok (.getfield 51, 3) := by decide +kernel
theorem dX12_minute_199 : decode cX12_minute 199 = .ok (.iload_n 2, 1) := by decide +kernel
theorem dX12_minute_200 : decode cX12_minute 200 = .ok (.dup2, 1) := by decide +kernel
theorem dX12_minute_201 : decode cX12_minute 201 = .ok (.iaload, 1) := by decide +kernel
theorem dX12_minute_202 : decode cX12_minute 202 = .ok (.aload_n 0, 1) := by decide +kernel
theorem dX12_minute_203 : decode cX12_minute 203 = .ok (.getfield 38, 3) := by decide +kernel
theorem dX12_minute_206 : decode cX12_minute 206 = .ok (.iload_n 2, 1) := by decide +kernel
theorem dX12_minute_207 : decode cX12_minute 207 = .ok (.iaload, 1) := by decide +kernel
theorem dX12_minute_208 : decode cX12_minute 208 = .ok (.iadd, 1) := by decide +kernel
theorem dX12_minute_209 : decode cX12_minute 209 = .ok (.iastore, 1) := by decide +kernel
theorem dX12_minute_210 : decode cX12_minute 210 = .ok (.iinc 2 1, 3) := by decide +kernel
theorem dX12_minute_213 : decode cX12_minute 213 = .ok (.goto (-39), 3) := by decide +kernel
theorem dX12_minute_216 : decode cX12_minute 216 = .ok (.aload_n 0, 1) := by decide +kernel
theorem dX12_minute_217 : decode cX12_minute 217 = .ok (.getfield 209, 3) := by decide +kernel
theorem dX12_minute_220 : decode cX12_minute 220 = .ok (.sipush 1300, 3) := by decide +kernel
theorem dX12_minute_223 : decode cX12_minute 223 = .ok (.if_icmp .le 35, 3) := by decide +kernel
theorem dX12_minute_226 : decode cX12_minute 226 = .ok (.aload_n 0, 1) := by decide +kernel
theorem dX12_minute_227 : decode cX12_minute 227 = .ok (.aload_n 0, 1) := by decide +kernel
theorem dX12_minute_228 : decode cX12_minute 228 = .ok (.getfield 224, 3) := by decide +kernel
theorem dX12_minute_231 : decode cX12_minute 231 = .ok (.ifCond .ne 10, 3) := by decide +kernel
theorem dX12_minute_234 : decode cX12_minute 234 = .ok (.aload_n 0, 1) := by decide +kernel
theorem dX12_minute_235 : decode cX12_minute 235 = .ok (.getfield 206, 3) := by decide +kernel
theorem dX12_minute_238 : decode cX12_minute 238 = .ok (.goto 7, 3) := by decide +kernel
theorem dX12_minute_241 : decode cX12_minute 241 = .ok (.aload_n 0, 1) := by decide +kernel
theorem dX12_minute_242 : decode cX12_minute 242 = .ok (.getfield 54, 3) := by decide +kernel
theorem dX12_minute_245 : decode cX12_minute 245 = .ok (.putfield 54, 3) := by decide +kernel
theorem dX12_minute_248 : decode cX12_minute 248 = .ok (.aload_n 0, 1) := by decide +kernel
theorem dX12_minute_249 : decode cX12_minute 249 = .ok (.dup, 1) := by decide +kernel
theorem dX12_minute_250 : decode cX12_minute 250 = .ok (.getfield 224, 3) := by decide +kernel
theorem dX12_minute_253 : decode cX12_minute 253 = .ok (.iconst 1, 1) := by decide +kernel
theorem dX12_minute_254 : decode cX12_minute 254 = .ok (.iadd, 1) := by decide +kernel
theorem dX12_minute_255 : decode cX12_minute 255 = .ok (.putfield 224, 3) := by decide +kernel
theorem dX12_minute_258 : decode cX12_minute 258 = .ok (.aload_n 0, 1) := by decide +kernel
theorem dX12_minute_259 : decode cX12_minute 259 = .ok (.dup, 1) := by decide +kernel
theorem dX12_minute_260 : decode cX12_minute 260 = .ok (.getfield 206, 3) := by decide +kernel
theorem dX12_minute_263 : decode cX12_minute 263 = .ok (.iconst 1, 1) := by decide +kernel
theorem dX12_minute_264 : decode cX12_minute 264 = .ok (.iadd, 1) := by decide +kernel
theorem dX12_minute_265 : decode cX12_minute 265 = .ok (.putfield 206, 3) := by decide +kernel
theorem dX12_minute_268 : decode cX12_minute 268 = .ok (.return_, 1) := by decide +kernel
theorem dX12_blow_0 : decode cX12_blow 0 = .ok (.iload_n 1, 1) := by decide +kernel
theorem dX12_blow_1 : decode cX12_blow 1 = .ok (.iconst 0, 1) := by decide +kernel
theorem dX12_blow_2 : decode cX12_blow 2 = .ok (.sipush 2000, 3) := by decide +kernel
theorem dX12_blow_5 : decode cX12_blow 5 = .ok (.invokestatic 169, 3) := by decide +kernel
theorem dX12_blow_8 : decode cX12_blow 8 = .ok (.ifCond .eq 15, 3) := by decide +kernel
theorem dX12_blow_11 : decode cX12_blow 11 = .ok (.aload_n 0, 1) := by decide +kernel
theorem dX12_blow_12 : decode cX12_blow 12 = .ok (.getfield 206, 3) := by decide +kernel
theorem dX12_blow_15 : decode cX12_blow 15 = .ok (.iload_n 1, 1) := by decide +kernel
theorem dX12_blow_16 : decode cX12_blow 16 = .ok (.iadd, 1) := by decide +kernel
theorem dX12_blow_17 : decode cX12_blow 17 = .ok (.sipush 20000, 3) := by decide +kernel
theorem dX12_blow_20 : decode cX12_blow 20 = .ok (.if_icmp .le 5, 3) := by decide +kernel
theorem dX12_blow_23 : decode cX12_blow 23 = .ok (.iconst (-1), 1) := by decide +kernel
theorem dX12_blow_24 : decode cX12_blow 24 = .ok (.ireturn, 1) := by decide +kernel
theorem dX12_blow_25 : decode cX12_blow 25 = .ok (.iconst 0, 1) := by decide +kernel
theorem dX12_blow_26 : decode cX12_blow 26 = .ok (.istore_n 2, 1) := by decide +kernel
theorem dX12_blow_27 : decode cX12_blow 27 = .ok (.iload_n 2, 1) := by decide +kernel
theorem dX12_blow_28 : decode cX12_blow 28 = .ok (.iload_n 1, 1) := by decide +kernel
theorem dX12_blow_29 : decode cX12_blow 29 = .ok (.if_icmp .ge 13, 3) := by decide +kernel
theorem dX12_blow_32 : decode cX12_blow 32 = .ok (.aload_n 0, 1) := by decide +kernel
theorem dX12_blow_33 : decode cX12_blow 33 = .ok (.invokevirtual 227, 3) := by decide +kernel
theorem dX12_blow_36 : decode cX12_blow 36 = .ok (.iinc 2 1, 3) := by decide +kernel
theorem dX12_blow_39 : decode cX12_blow 39 = .ok (.goto (-12), 3) := by decide +kernel
theorem dX12_blow_42 : decode cX12_blow 42 = .ok (.aload_n 0, 1) := by decide +kernel
theorem dX12_blow_43 : decode cX12_blow 43 = .ok (.getfield 209, 3) := by decide +kernel
theorem dX12_blow_46 : decode cX12_blow 46 = .ok (.ireturn, 1) := by decide +kernel
theorem dX12_furnace_0 : decode cX12_furnace 0 = .ok (.iload_n 1, 1) := by decide +kernel
theorem dX12_furnace_1 : decode cX12_furnace 1 = .ok (.tableswitch 110 0 8 #[51, 56, 61, 66, 74, 87, 95, 100, 105], 51) := by decide +kernel
theorem dX12_furnace_52 : decode cX12_furnace 52 = .ok (.aload_n 0, 1) := by decide +kernel
theorem dX12_furnace_53 : decode cX12_furnace 53 = .ok (.getfield 209, 3) := by decide +kernel
theorem dX12_furnace_56 : decode cX12_furnace 56 = .ok (.ireturn, 1) := by decide +kernel
theorem dX12_furnace_57 : decode cX12_furnace 57 = .ok (.aload_n 0, 1) := by decide +kernel
theorem dX12_furnace_58 : decode cX12_furnace 58 = .ok (.getfield 212, 3) := by decide +kernel
theorem dX12_furnace_61 : decode cX12_furnace 61 = .ok (.ireturn, 1) := by decide +kernel
theorem dX12_furnace_62 : decode cX12_furnace 62 = .ok (.aload_n 0, 1) := by decide +kernel
theorem dX12_furnace_63 : decode cX12_furnace 63 = .ok (.getfield 221, 3) := by decide +kernel
theorem dX12_furnace_66 : decode cX12_furnace 66 = .ok (.ireturn, 1) := by decide +kernel
theorem dX12_furnace_67 : decode cX12_furnace 67 = .ok (.aload_n 0, 1) := by decide +kernel
theorem dX12_furnace_68 : decode cX12_furnace 68 = .ok (.getfield 45, 3) := by decide +kernel
theorem dX12_furnace_71 : decode cX12_furnace 71 = .ok (.invokestatic 195, 3) := by decide +kernel
theorem dX12_furnace_74 : decode cX12_furnace 74 = .ok (.ireturn, 1) := by decide +kernel
theorem dX12_furnace_75 : decode cX12_furnace 75 = .ok (.aload_n 0, 1) := by decide +kernel
theorem dX12_furnace_76 : decode cX12_furnace 76 = .ok (.getfield 48, 3) := by decide +kernel
theorem dX12_furnace_79 : decode cX12_furnace 79 = .ok (.invokestatic 195, 3) := by decide +kernel
theorem dX12_furnace_82 : decode cX12_furnace 82 = .ok (.aload_n 0, 1) := by decide +kernel
theorem dX12_furnace_83 : decode cX12_furnace 83 = .ok (.getfield 199, 3) := by decide +kernel
theorem dX12_furnace_86 : decode cX12_furnace 86 = .ok (.isub, 1) := by decide +kernel
theorem dX12_furnace_87 : decode cX12_furnace 87 = .ok (.ireturn, 1) := by decide +kernel
theorem dX12_furnace_88 : decode cX12_furnace 88 = .ok (.aload_n 0, 1) := by decide +kernel
theorem dX12_furnace_89 : decode cX12_furnace 89 = .ok (.getfield 51, 3) := by decide +kernel
theorem dX12_furnace_92 : decode cX12_furnace 92 = .ok (.invokestatic 195, 3) := by decide +kernel
theorem dX12_furnace_95 : decode cX12_furnace 95 = .ok (.ireturn, 1) := by decide +kernel
theorem dX12_furnace_96 : decode cX12_furnace 96 = .ok (.aload_n 0, 1) := by decide +kernel
theorem dX12_furnace_97 : decode cX12_furnace 97 = .ok (.getfield 206, 3) := by decide +kernel
theorem dX12_furnace_100 : decode cX12_furnace 100 = .ok (.ireturn, 1) := by decide +kernel
theorem dX12_furnace_101 : decode cX12_furnace 101 = .ok (.aload_n 0, 1) := by decide +kernel
theorem dX12_furnace_102 : decode cX12_furnace 102 = .ok (.getfield 224, 3) := by decide +kernel
theorem dX12_furnace_105 : decode cX12_furnace 105 = .ok (.ireturn, 1) := by decide +kernel
theorem dX12_furnace_106 : decode cX12_furnace 106 = .ok (.aload_n 0, 1) := by decide +kernel
theorem dX12_furnace_107 : decode cX12_furnace 107 = .ok (.getfield 54, 3) := by decide +kernel
theorem dX12_furnace_110 : decode cX12_furnace 110 = .ok (.ireturn, 1) := by decide +kernel
theorem dX12_furnace_111 : decode cX12_furnace 111 = .ok (.iconst (-1), 1) := by decide +kernel
theorem dX12_furnace_112 : decode cX12_furnace 112 = .ok (.ireturn, 1) := by decide +kernel
theorem dX12_byteOf_0 : decode cX12_byteOf 0 = .ok (.iload 5, 2) := by decide +kernel
theorem dX12_byteOf_2 : decode cX12_byteOf 2 = .ok (.iconst 4, 1) := by decide +kernel
theorem dX12_byteOf_3 : decode cX12_byteOf 3 = .ok (.if_icmp .ge 7, 3) := by decide +kernel
theorem dX12_byteOf_6 : decode cX12_byteOf 6 = .ok (.iload_n 0, 1) := by decide +kernel
theorem dX12_byteOf_7 : decode cX12_byteOf 7 = .ok (.goto 38, 3) := by decide +kernel
theorem dX12_byteOf_10 : decode cX12_byteOf 10 = .ok (.iload 5, 2) := by decide +kernel
theorem dX12_byteOf_12 : decode cX12_byteOf 12 = .ok (.bipush 8, 2) := by decide +kernel
theorem dX12_byteOf_14 : decode cX12_byteOf 14 = .ok (.if_icmp .ge 7, 3) := by decide +kernel
theorem dX12_byteOf_17 : decode cX12_byteOf 17 = .ok (.iload_n 1, 1) := by decide +kernel
theorem dX12_byteOf_18 : decode cX12_byteOf 18 = .ok (.goto 27, 3) := by decide +kernel
theorem dX12_byteOf_21 : decode cX12_byteOf 21 = .ok (.iload 5, 2) := by decide +kernel
theorem dX12_byteOf_23 : decode cX12_byteOf 23 = .ok (.bipush 12, 2) := by decide +kernel
theorem dX12_byteOf_25 : decode cX12_byteOf 25 = .ok (.if_icmp .ge 7, 3) := by decide +kernel
theorem dX12_byteOf_28 : decode cX12_byteOf 28 = .ok (.iload_n 2, 1) := by decide +kernel
theorem dX12_byteOf_29 : decode cX12_byteOf 29 = .ok (.goto 16, 3) := by decide +kernel
theorem dX12_byteOf_32 : decode cX12_byteOf 32 = .ok (.iload 5, 2) := by decide +kernel
theorem dX12_byteOf_34 : decode cX12_byteOf 34 = .ok (.bipush 16, 2) := by decide +kernel
theorem dX12_byteOf_36 : decode cX12_byteOf 36 = .ok (.if_icmp .ge 7, 3) := by decide +kernel
theorem dX12_byteOf_39 : decode cX12_byteOf 39 = .ok (.iload_n 3, 1) := by decide +kernel
theorem dX12_byteOf_40 : decode cX12_byteOf 40 = .ok (.goto 5, 3) := by decide +kernel
theorem dX12_byteOf_43 : decode cX12_byteOf 43 = .ok (.iload 4, 2) := by decide +kernel
theorem dX12_byteOf_45 : decode cX12_byteOf 45 = .ok (.istore 6, 2) := by decide +kernel
theorem dX12_byteOf_47 : decode cX12_byteOf 47 = .ok (.iload 6, 2) := by decide +kernel
theorem dX12_byteOf_49 : decode cX12_byteOf 49 = .ok (.bipush 24, 2) := by decide +kernel
theorem dX12_byteOf_51 : decode cX12_byteOf 51 = .ok (.bipush 8, 2) := by decide +kernel
theorem dX12_byteOf_53 : decode cX12_byteOf 53 = .ok (.iload 5, 2) := by decide +kernel
theorem dX12_byteOf_55 : decode cX12_byteOf 55 = .ok (.iconst 4, 1) := by decide +kernel
theorem dX12_byteOf_56 : decode cX12_byteOf 56 = .ok (.irem, 1) := by decide +kernel
theorem dX12_byteOf_57 : decode cX12_byteOf 57 = .ok (.imul, 1) := by decide +kernel
theorem dX12_byteOf_58 : decode cX12_byteOf 58 = .ok (.isub, 1) := by decide +kernel
theorem dX12_byteOf_59 : decode cX12_byteOf 59 = .ok (.ishr, 1) := by decide +kernel
theorem dX12_byteOf_60 : decode cX12_byteOf 60 = .ok (.sipush 255, 3) := by decide +kernel
theorem dX12_byteOf_63 : decode cX12_byteOf 63 = .ok (.iand, 1) := by decide +kernel
theorem dX12_byteOf_64 : decode cX12_byteOf 64 = .ok (.ireturn, 1) := by decide +kernel
theorem dX12_feed_0 : decode cX12_feed 0 = .ok (.iconst 0, 1) := by decide +kernel
theorem dX12_feed_1 : decode cX12_feed 1 = .ok (.istore 6, 2) := by decide +kernel
theorem dX12_feed_3 : decode cX12_feed 3 = .ok (.iconst 0, 1) := by decide +kernel
theorem dX12_feed_4 : decode cX12_feed 4 = .ok (.istore 7, 2) := by decide +kernel
theorem dX12_feed_6 : decode cX12_feed 6 = .ok (.iload 7, 2) := by decide +kernel
theorem dX12_feed_8 : decode cX12_feed 8 = .ok (.bipush 20, 2) := by decide +kernel
theorem dX12_feed_10 : decode cX12_feed 10 = .ok (.if_icmp .ge 34, 3) := by decide +kernel
theorem dX12_feed_13 : decode cX12_feed 13 = .ok (.iload 6, 2) := by decide +kernel
theorem dX12_feed_15 : decode cX12_feed 15 = .ok (.iload_n 1, 1) := by decide +kernel
theorem dX12_feed_16 : decode cX12_feed 16 = .ok (.iload_n 2, 1) := by decide +kernel
theorem dX12_feed_17 : decode cX12_feed 17 = .ok (.iload_n 3, 1) := by decide +kernel
theorem dX12_feed_18 : decode cX12_feed 18 = .ok (.iload 4, 2) := by decide +kernel
theorem dX12_feed_20 : decode cX12_feed 20 = .ok (.iload 5, 2) := by decide +kernel
theorem dX12_feed_22 : decode cX12_feed 22 = .ok (.iload 7, 2) := by decide +kernel
theorem dX12_feed_24 : decode cX12_feed 24 = .ok (.invokestatic 230, 3) := by decide +kernel
theorem dX12_feed_27 : decode cX12_feed 27 = .ok (.ifCond .eq 7, 3) := by decide +kernel
theorem dX12_feed_30 : decode cX12_feed 30 = .ok (.iconst 1, 1) := by decide +kernel
theorem dX12_feed_31 : decode cX12_feed 31 = .ok (.goto 4, 3) := by decide +kernel
theorem dX12_feed_34 : decode cX12_feed 34 = .ok (.iconst 0, 1) := by decide +kernel
theorem dX12_feed_35 : decode cX12_feed 35 = .ok (.iadd, 1) := by decide +kernel
theorem dX12_feed_36 : decode cX12_feed 36 = .ok (.istore 6, 2) := by decide +kernel
theorem dX12_feed_38 : decode cX12_feed 38 = .ok (.iinc 7 1, 3) := by decide +kernel
theorem dX12_feed_41 : decode cX12_feed 41 = .ok (.goto (-35), 3) := by decide +kernel
theorem dX12_feed_44 : decode cX12_feed 44 = .ok (.aload_n 0, 1) := by decide +kernel
theorem dX12_feed_45 : decode cX12_feed 45 = .ok (.getfield 234, 3) := by decide +kernel
theorem dX12_feed_48 : decode cX12_feed 48 = .ok (.iload 6, 2) := by decide +kernel
theorem dX12_feed_50 : decode cX12_feed 50 = .ok (.iadd, 1) := by decide +kernel
theorem dX12_feed_51 : decode cX12_feed 51 = .ok (.sipush 200, 3) := by decide +kernel
theorem dX12_feed_54 : decode cX12_feed 54 = .ok (.if_icmp .le 5, 3) := by decide +kernel
theorem dX12_feed_57 : decode cX12_feed 57 = .ok (.iconst (-1), 1) := by decide +kernel
theorem dX12_feed_58 : decode cX12_feed 58 = .ok (.ireturn, 1) := by decide +kernel
theorem dX12_feed_59 : decode cX12_feed 59 = .ok (.iconst 0, 1) := by decide +kernel
theorem dX12_feed_60 : decode cX12_feed 60 = .ok (.istore 7, 2) := by decide +kernel
theorem dX12_feed_62 : decode cX12_feed 62 = .ok (.iload 7, 2) := by decide +kernel
theorem dX12_feed_64 : decode cX12_feed 64 = .ok (.bipush 20, 2) := by decide +kernel
theorem dX12_feed_66 : decode cX12_feed 66 = .ok (.if_icmp .ge 49, 3) := by decide +kernel
theorem dX12_feed_69 : decode cX12_feed 69 = .ok (.iload_n 1, 1) := by decide +kernel
theorem dX12_feed_70 : decode cX12_feed 70 = .ok (.iload_n 2, 1) := by decide +kernel
theorem dX12_feed_71 : decode cX12_feed 71 = .ok (.iload_n 3, 1) := by decide +kernel
theorem dX12_feed_72 : decode cX12_feed 72 = .ok (.iload 4, 2) := by decide +kernel
theorem dX12_feed_74 : decode cX12_feed 74 = .ok (.iload 5, 2) := by decide +kernel
theorem dX12_feed_76 : decode cX12_feed 76 = .ok (.iload 7, 2) := by decide +kernel
theorem dX12_feed_78 : decode cX12_feed 78 = .ok (.invokestatic 230, 3) := by decide +kernel
theorem dX12_feed_81 : decode cX12_feed 81 = .ok (.istore 8, 2) := by decide +kernel
theorem dX12_feed_83 : decode cX12_feed 83 = .ok (.iload 8, 2) := by decide +kernel
theorem dX12_feed_85 : decode cX12_feed 85 = .ok (.ifCond .eq 24, 3) := by decide +kernel
theorem dX12_feed_88 : decode cX12_feed 88 = .ok (.aload_n 0, 1) := by decide +kernel
theorem dX12_feed_89 : decode cX12_feed 89 = .ok (.getfield 64, 3) := by decide +kernel
theorem dX12_feed_92 : decode cX12_feed 92 = .ok (.aload_n 0, 1) := by decide +kernel
theorem dX12_feed_93 : decode cX12_feed 93 = .ok (.getfield 234, 3) := by decide +kernel
theorem dX12_feed_96 : decode cX12_feed 96 = .ok (.iload 8, 2) := by decide +kernel
theorem dX12_feed_98 : decode cX12_feed 98 = .ok (.iastore, 1) := by decide +kernel
theorem dX12_feed_99 : decode cX12_feed 99 = .ok (.aload_n 0, 1) := by decide +kernel
theorem dX12_feed_100 : decode cX12_feed 100 = .ok (.dup, 1) := by decide +kernel
theorem dX12_feed_101 : decode cX12_feed 101 = .ok (.getfield 234, 3) := by decide +kernel
theorem dX12_feed_104 : decode cX12_feed 104 = .ok (.iconst 1, 1) := by decide +kernel
theorem dX12_feed_105 : decode cX12_feed 105 = .ok (.iadd, 1) := by decide +kernel
theorem dX12_feed_106 : decode cX12_feed 106 = .ok (.putfield 234, 3) := by decide +kernel
theorem dX12_feed_109 : decode cX12_feed 109 = .ok (.iinc 7 1, 3) := by decide +kernel
theorem dX12_feed_112 : decode cX12_feed 112 = .ok (.goto (-50), 3) := by decide +kernel
theorem dX12_feed_115 : decode cX12_feed 115 = .ok (.aload_n 0, 1) := by decide +kernel
theorem dX12_feed_116 : decode cX12_feed 116 = .ok (.getfield 234, 3) := by decide +kernel
theorem dX12_feed_119 : decode cX12_feed 119 = .ok (.ireturn, 1) := by decide +kernel
theorem dX12_end_0 : decode cX12_end 0 = .ok (.iload_n 1, 1) := by decide +kernel
theorem dX12_end_1 : decode cX12_end 1 = .ok (.ifCond .lt 11, 3) := by decide +kernel
theorem dX12_end_4 : decode cX12_end 4 = .ok (.iload_n 1, 1) := by decide +kernel
theorem dX12_end_5 : decode cX12_end 5 = .ok (.aload_n 0, 1) := by decide +kernel
theorem dX12_end_6 : decode cX12_end 6 = .ok (.getfield 234, 3) := by decide +kernel
theorem dX12_end_9 : decode cX12_end 9 = .ok (.if_icmp .le 5, 3) := by decide +kernel
theorem dX12_end_12 : decode cX12_end 12 = .ok (.iconst 0, 1) := by decide +kernel
theorem dX12_end_13 : decode cX12_end 13 = .ok (.ireturn, 1) := by decide +kernel
theorem dX12_end_14 : decode cX12_end 14 = .ok (.aload_n 0, 1) := by decide +kernel
theorem dX12_end_15 : decode cX12_end 15 = .ok (.iload_n 1, 1) := by decide +kernel
theorem dX12_end_16 : decode cX12_end 16 = .ok (.putfield 234, 3) := by decide +kernel
theorem dX12_end_19 : decode cX12_end 19 = .ok (.iconst 1, 1) := by decide +kernel
theorem dX12_end_20 : decode cX12_end 20 = .ok (.ireturn, 1) := by decide +kernel
theorem dX12_look_0 : decode cX12_look 0 = .ok (.aload_n 0, 1) := by decide +kernel
theorem dX12_look_1 : decode cX12_look 1 = .ok (.getfield 237, 3) := by decide +kernel
theorem dX12_look_4 : decode cX12_look 4 = .ok (.aload_n 0, 1) := by decide +kernel
theorem dX12_look_5 : decode cX12_look 5 = .ok (.getfield 234, 3) := by decide +kernel
theorem dX12_look_8 : decode cX12_look 8 = .ok (.if_icmp .ge 30, 3) := by decide +kernel
theorem dX12_look_11 : decode cX12_look 11 = .ok (.aload_n 0, 1) := by decide +kernel
theorem dX12_look_12 : decode cX12_look 12 = .ok (.getfield 64, 3) := by decide +kernel
theorem dX12_look_15 : decode cX12_look 15 = .ok (.aload_n 0, 1) := by decide +kernel
theorem dX12_look_16 : decode cX12_look 16 = .ok (.getfield 237, 3) := by decide +kernel
theorem dX12_look_19 : decode cX12_look 19 = .ok (.iaload, 1) := by decide +kernel
theorem dX12_look_20 : decode cX12_look 20 = .ok (.bipush 32, 2) := by decide +kernel
theorem dX12_look_22 : decode cX12_look 22 = .ok (.if_icmp .ne 16, 3) := by decide +kernel
theorem dX12_look_25 : decode cX12_look 25 = .ok (.aload_n 0, 1) := by decide +kernel
theorem dX12_look_26 : decode cX12_look 26 = .ok (.dup, 1) := by decide +kernel
theorem dX12_look_27 : decode cX12_look 27 = .ok (.getfield 237, 3) := by decide +kernel
theorem dX12_look_30 : decode cX12_look 30 = .ok (.iconst 1, 1) := by decide +kernel
theorem dX12_look_31 : decode cX12_look 31 = .ok (.iadd, 1) := by decide +kernel
theorem dX12_look_32 : decode cX12_look 32 = .ok (.putfield 237, 3) := by decide +kernel
theorem dX12_look_35 : decode cX12_look 35 = .ok (.goto (-35), 3) := by decide +kernel
theorem dX12_look_38 : decode cX12_look 38 = .ok (.aload_n 0, 1) := by decide +kernel
theorem dX12_look_39 : decode cX12_look 39 = .ok (.getfield 237, 3) := by decide +kernel
theorem dX12_look_42 : decode cX12_look 42 = .ok (.aload_n 0, 1) := by decide +kernel
theorem dX12_look_43 : decode cX12_look 43 = .ok (.getfield 234, 3) := by decide +kernel
theorem dX12_look_46 : decode cX12_look 46 = .ok (.if_icmp .ge 15, 3) := by decide +kernel
theorem dX12_look_49 : decode cX12_look 49 = .ok (.aload_n 0, 1) := by decide +kernel
theorem dX12_look_50 : decode cX12_look 50 = .ok (.getfield 64, 3) := by decide +kernel
theorem dX12_look_53 : decode cX12_look 53 = .ok (.aload_n 0, 1) := by decide +kernel
theorem dX12_look_54 : decode cX12_look 54 = .ok (.getfield 237, 3) := by decide +kernel
theorem dX12_look_57 : decode cX12_look 57 = .ok (.iaload, 1) := by decide +kernel
theorem dX12_look_58 : decode cX12_look 58 = .ok (.goto 4, 3) := by decide +kernel
theorem dX12_look_61 : decode cX12_look 61 = .ok (.iconst (-1), 1) := by decide +kernel
theorem dX12_look_62 : decode cX12_look 62 = .ok (.ireturn, 1) := by decide +kernel
theorem dX12_isDigit_0 : decode cX12_isDigit 0 = .ok (.iload_n 0, 1) := by decide +kernel
theorem dX12_isDigit_1 : decode cX12_isDigit 1 = .ok (.bipush 48, 2) := by decide +kernel
theorem dX12_isDigit_3 : decode cX12_isDigit 3 = .ok (.if_icmp .lt 13, 3) := by decide +kernel
theorem dX12_isDigit_6 : decode cX12_isDigit 6 = .ok (.iload_n 0, 1) := by decide +kernel
theorem dX12_isDigit_7 : decode cX12_isDigit 7 = .ok (.bipush 57, 2) := by decide +kernel
theorem dX12_isDigit_9 : decode cX12_isDigit 9 = .ok (.if_icmp .gt 7, 3) := by decide +kernel
theorem dX12_isDigit_12 : decode cX12_isDigit 12 = .ok (.iconst 1, 1) := by decide +kernel
theorem dX12_isDigit_13 : decode cX12_isDigit 13 = .ok (.goto 4, 3) := by decide +kernel
theorem dX12_isDigit_16 : decode cX12_isDigit 16 = .ok (.iconst 0, 1) := by decide +kernel
theorem dX12_isDigit_17 : decode cX12_isDigit 17 = .ok (.ireturn, 1) := by decide +kernel
theorem dX12_clause_0 : decode cX12_clause 0 = .ok (.aload_n 0, 1) := by decide +kernel
theorem dX12_clause_1 : decode cX12_clause 1 = .ok (.invokevirtual 240, 3) := by decide +kernel
theorem dX12_clause_4 : decode cX12_clause 4 = .ok (.istore_n 1, 1) := by decide +kernel
theorem dX12_clause_5 : decode cX12_clause 5 = .ok (.iload_n 1, 1) := by decide +kernel
theorem dX12_clause_6 : decode cX12_clause 6 = .ok (.bipush 104, 2) := by decide +kernel
theorem dX12_clause_8 : decode cX12_clause 8 = .ok (.if_icmp .eq 23, 3) := by decide +kernel
theorem dX12_clause_11 : decode cX12_clause 11 = .ok (.iload_n 1, 1) := by decide +kernel
theorem dX12_clause_12 : decode cX12_clause 12 = .ok (.bipush 109, 2) := by decide +kernel
theorem dX12_clause_14 : decode cX12_clause 14 = .ok (.if_icmp .eq 17, 3) := by decide +kernel
theorem dX12_clause_17 : decode cX12_clause 17 = .ok (.iload_n 1, 1) := by decide +kernel
theorem dX12_clause_18 : decode cX12_clause 18 = .ok (.bipush 99, 2) := by decide +kernel
theorem dX12_clause_20 : decode cX12_clause 20 = .ok (.if_icmp .eq 11, 3) := by decide +kernel
theorem dX12_clause_23 : decode cX12_clause 23 = .ok (.iload_n 1, 1) := by decide +kernel
theorem dX12_clause_24 : decode cX12_clause 24 = .ok (.bipush 111, 2) := by decide +kernel
theorem dX12_clause_26 : decode cX12_clause 26 = .ok (.if_icmp .eq 5, 3) := by decide +kernel
theorem dX12_clause_29 : decode cX12_clause 29 = .ok (.iconst 0, 1) := by decide +kernel
theorem dX12_clause_30 : decode cX12_clause 30 = .ok (.ireturn, 1) := by decide +kernel
theorem dX12_clause_31 : decode cX12_clause 31 = .ok (.aload_n 0, 1) := by decide +kernel
theorem dX12_clause_32 : decode cX12_clause 32 = .ok (.dup, 1) := by decide +kernel
theorem dX12_clause_33 : decode cX12_clause 33 = .ok (.getfield 237, 3) := by decide +kernel
theorem dX12_clause_36 : decode cX12_clause 36 = .ok (.iconst 1, 1) := by decide +kernel
theorem dX12_clause_37 : decode cX12_clause 37 = .ok (.iadd, 1) := by decide +kernel
theorem dX12_clause_38 : decode cX12_clause 38 = .ok (.putfield 237, 3) := by decide +kernel
theorem dX12_clause_41 : decode cX12_clause 41 = .ok (.aload_n 0, 1) := by decide +kernel
theorem dX12_clause_42 : decode cX12_clause 42 = .ok (.invokevirtual 240, 3) := by decide +kernel
theorem dX12_clause_45 : decode cX12_clause 45 = .ok (.istore_n 2, 1) := by decide +kernel
theorem dX12_clause_46 : decode cX12_clause 46 = .ok (.iload_n 2, 1) := by decide +kernel
theorem dX12_clause_47 : decode cX12_clause 47 = .ok (.bipush 61, 2) := by decide +kernel
theorem dX12_clause_49 : decode cX12_clause 49 = .ok (.if_icmp .eq 17, 3) := by decide +kernel
theorem dX12_clause_52 : decode cX12_clause 52 = .ok (.iload_n 2, 1) := by decide +kernel
theorem dX12_clause_53 : decode cX12_clause 53 = .ok (.bipush 60, 2) := by decide +kernel
theorem dX12_clause_55 : decode cX12_clause 55 = .ok (.if_icmp .eq 11, 3) := by decide +kernel
theorem dX12_clause_58 : decode cX12_clause 58 = .ok (.iload_n 2, 1) := by decide +kernel
theorem dX12_clause_59 : decode cX12_clause 59 = .ok (.bipush 62, 2) := by decide +kernel
theorem dX12_clause_61 : decode cX12_clause 61 = .ok (.if_icmp .eq 5, 3) := by decide +kernel
theorem dX12_clause_64 : decode cX12_clause 64 = .ok (.iconst 0, 1) := by decide +kernel
theorem dX12_clause_65 : decode cX12_clause 65 = .ok (.ireturn, 1) := by decide +kernel
theorem dX12_clause_66 : decode cX12_clause 66 = .ok (.aload_n 0, 1) := by decide +kernel
theorem dX12_clause_67 : decode cX12_clause 67 = .ok (.dup, 1) := by decide +kernel
theorem dX12_clause_68 : decode cX12_clause 68 = .ok (.getfield 237, 3) := by decide +kernel
theorem dX12_clause_71 : decode cX12_clause 71 = .ok (.iconst 1, 1) := by decide +kernel
theorem dX12_clause_72 : decode cX12_clause 72 = .ok (.iadd, 1) := by decide +kernel
theorem dX12_clause_73 : decode cX12_clause 73 = .ok (.putfield 237, 3) := by decide +kernel
theorem dX12_clause_76 : decode cX12_clause 76 = .ok (.aload_n 0, 1) := by decide +kernel
theorem dX12_clause_77 : decode cX12_clause 77 = .ok (.invokevirtual 240, 3) := by decide +kernel
theorem dX12_clause_80 : decode cX12_clause 80 = .ok (.invokestatic 244, 3) := by decide +kernel
theorem dX12_clause_83 : decode cX12_clause 83 = .ok (.ifCond .ne 5, 3) := by decide +kernel
theorem dX12_clause_86 : decode cX12_clause 86 = .ok (.iconst 0, 1) := by decide +kernel
theorem dX12_clause_87 : decode cX12_clause 87 = .ok (.ireturn, 1) := by decide +kernel
theorem dX12_clause_88 : decode cX12_clause 88 = .ok (.iconst 0, 1) := by decide +kernel
theorem dX12_clause_89 : decode cX12_clause 89 = .ok (.istore_n 3, 1) := by decide +kernel
theorem dX12_clause_90 : decode cX12_clause 90 = .ok (.iconst 0, 1) := by decide +kernel
theorem dX12_clause_91 : decode cX12_clause 91 = .ok (.istore 4, 2) := by decide +kernel
theorem dX12_clause_93 : decode cX12_clause 93 = .ok (.aload_n 0, 1) := by decide +kernel
theorem dX12_clause_94 : decode cX12_clause 94 = .ok (.getfield 237, 3) := by decide +kernel
theorem dX12_clause_97 : decode cX12_clause 97 = .ok (.aload_n 0, 1) := by decide +kernel
theorem dX12_clause_98 : decode cX12_clause 98 = .ok (.getfield 234, 3) := by decide +kernel
theorem dX12_clause_101 : decode cX12_clause 101 = .ok (.if_icmp .ge 60, 3) := by decide +kernel
theorem dX12_clause_104 : decode cX12_clause 104 = .ok (.aload_n 0, 1) := by decide +kernel
theorem dX12_clause_105 : decode cX12_clause 105 = .ok (.getfield 64, 3) := by decide +kernel
theorem dX12_clause_108 : decode cX12_clause 108 = .ok (.aload_n 0, 1) := by decide +kernel
theorem dX12_clause_109 : decode cX12_clause 109 = .ok (.getfield 237, 3) := by decide +kernel
theorem dX12_clause_112 : decode cX12_clause 112 = .ok (.iaload, 1) := by decide +kernel
theorem dX12_clause_113 : decode cX12_clause 113 = .ok (.invokestatic 244, 3) := by decide +kernel
theorem dX12_clause_116 : decode cX12_clause 116 = .ok (.ifCond .eq 45, 3) := by decide +kernel
theorem dX12_clause_119 : decode cX12_clause 119 = .ok (.iload 4, 2) := by decide +kernel
theorem dX12_clause_121 : decode cX12_clause 121 = .ok (.iconst 5, 1) := by decide +kernel
theorem dX12_clause_122 : decode cX12_clause 122 = .ok (.if_icmp .ne 5, 3) := by decide +kernel
theorem dX12_clause_125 : decode cX12_clause 125 = .ok (.iconst 0, 1) := by decide +kernel
theorem dX12_clause_126 : decode cX12_clause 126 = .ok (.ireturn, 1) := by decide +kernel
theorem dX12_clause_127 : decode cX12_clause 127 = .ok (.bipush 10, 2) := by decide +kernel
theorem dX12_clause_129 : decode cX12_clause 129 = .ok (.iload_n 3, 1) := by decide +kernel
theorem dX12_clause_130 : decode cX12_clause 130 = .ok (.imul, 1) := by decide +kernel
theorem dX12_clause_131 : decode cX12_clause 131 = .ok (.aload_n 0, 1) := by decide +kernel
theorem dX12_clause_132 : decode cX12_clause 132 = .ok (.getfield 64, 3) := by decide +kernel
theorem dX12_clause_135 : decode cX12_clause 135 = .ok (.aload_n 0, 1) := by decide +kernel
theorem dX12_clause_136 : decode cX12_clause 136 = .ok (.getfield 237, 3) := by decide +kernel
theorem dX12_clause_139 : decode cX12_clause 139 = .ok (.iaload, 1) := by decide +kernel
theorem dX12_clause_140 : decode cX12_clause 140 = .ok (.iadd, 1) := by decide +kernel
theorem dX12_clause_141 : decode cX12_clause 141 = .ok (.bipush 48, 2) := by decide +kernel
theorem dX12_clause_143 : decode cX12_clause 143 = .ok (.isub, 1) := by decide +kernel
theorem dX12_clause_144 : decode cX12_clause 144 = .ok (.istore_n 3, 1) := by decide +kernel
theorem dX12_clause_145 : decode cX12_clause 145 = .ok (.iinc 4 1, 3) := by decide +kernel
theorem dX12_clause_148 : decode cX12_clause 148 = .ok (.aload_n 0, 1) := by decide +kernel
theorem dX12_clause_149 : decode cX12_clause 149 = .ok (.dup, 1) := by decide +kernel
theorem dX12_clause_150 : decode cX12_clause 150 = .ok (.getfield 237, 3) := by decide +kernel
theorem dX12_clause_153 : decode cX12_clause 153 = .ok (.iconst 1, 1) := by decide +kernel
theorem dX12_clause_154 : decode cX12_clause 154 = .ok (.iadd, 1) := by decide +kernel
theorem dX12_clause_155 : decode cX12_clause 155 = .ok (.putfield 237, 3) := by decide +kernel
theorem dX12_clause_158 : decode cX12_clause 158 = .ok (.goto (-65), 3) := by decide +kernel
theorem dX12_clause_161 : decode cX12_clause 161 = .ok (.aload_n 0, 1) := by decide +kernel
theorem dX12_clause_162 : decode cX12_clause 162 = .ok (.invokevirtual 240, 3) := by decide +kernel
theorem dX12_clause_165 : decode cX12_clause 165 = .ok (.bipush 58, 2) := by decide +kernel
theorem dX12_clause_167 : decode cX12_clause 167 = .ok (.if_icmp .eq 5, 3) := by decide +kernel
theorem dX12_clause_170 : decode cX12_clause 170 = .ok (.iconst 0, 1) := by decide +kernel
theorem dX12_clause_171 : decode cX12_clause 171 = .ok (.ireturn, 1) := by decide +kernel
theorem dX12_clause_172 : decode cX12_clause 172 = .ok (.aload_n 0, 1) := by decide +kernel
theorem dX12_clause_173 : decode cX12_clause 173 = .ok (.dup, 1) := by decide +kernel
theorem dX12_clause_174 : decode cX12_clause 174 = .ok (.getfield 237, 3) := by decide +kernel
theorem dX12_clause_177 : decode cX12_clause 177 = .ok (.iconst 1, 1) := by decide +kernel
theorem dX12_clause_178 : decode cX12_clause 178 = .ok (.iadd, 1) := by decide +kernel
theorem dX12_clause_179 : decode cX12_clause 179 = .ok (.putfield 237, 3) := by decide +kernel
theorem dX12_clause_182 : decode cX12_clause 182 = .ok (.aload_n 0, 1) := by decide +kernel
theorem dX12_clause_183 : decode cX12_clause 183 = .ok (.invokevirtual 240, 3) := by decide +kernel
theorem dX12_clause_186 : decode cX12_clause 186 = .ok (.invokestatic 244, 3) := by decide +kernel
theorem dX12_clause_189 : decode cX12_clause 189 = .ok (.ifCond .ne 5, 3) := by decide +kernel
theorem dX12_clause_192 : decode cX12_clause 192 = .ok (.iconst 0, 1) := by decide +kernel
theorem dX12_clause_193 : decode cX12_clause 193 = .ok (.ireturn, 1) := by decide +kernel
theorem dX12_clause_194 : decode cX12_clause 194 = .ok (.aload_n 0, 1) := by decide +kernel
theorem dX12_clause_195 : decode cX12_clause 195 = .ok (.getfield 79, 3) := by decide +kernel
theorem dX12_clause_198 : decode cX12_clause 198 = .ok (.aload_n 0, 1) := by decide +kernel
theorem dX12_clause_199 : decode cX12_clause 199 = .ok (.getfield 247, 3) := by decide +kernel
theorem dX12_clause_202 : decode cX12_clause 202 = .ok (.iload_n 1, 1) := by decide +kernel
theorem dX12_clause_203 : decode cX12_clause 203 = .ok (.iastore, 1) := by decide +kernel
theorem dX12_clause_204 : decode cX12_clause 204 = .ok (.aload_n 0, 1) := by decide +kernel
theorem dX12_clause_205 : decode cX12_clause 205 = .ok (.getfield 82, 3) := by decide +kernel
theorem dX12_clause_208 : decode cX12_clause 208 = .ok (.aload_n 0, 1) := by decide +kernel
theorem dX12_clause_209 : decode cX12_clause 209 = .ok (.getfield 247, 3) := by decide +kernel
theorem dX12_clause_212 : decode cX12_clause 212 = .ok (.iload_n 2, 1) := by decide +kernel
theorem dX12_clause_213 : decode cX12_clause 213 = .ok (.iastore, 1) := by decide +kernel
theorem dX12_clause_214 : decode cX12_clause 214 = .ok (.aload_n 0, 1) := by decide +kernel
theorem dX12_clause_215 : decode cX12_clause 215 = .ok (.getfield 85, 3) := by decide +kernel
theorem dX12_clause_218 : decode cX12_clause 218 = .ok (.aload_n 0, 1) := by decide +kernel
theorem dX12_clause_219 : decode cX12_clause 219 = .ok (.getfield 247, 3) := by decide +kernel
theorem dX12_clause_222 : decode cX12_clause 222 = .ok (.iload_n 3, 1) := by decide +kernel
theorem dX12_clause_223 : decode cX12_clause 223 = .ok (.iastore, 1) := by decide +kernel
theorem dX12_clause_224 : decode cX12_clause 224 = .ok (.aload_n 0, 1) := by decide +kernel
theorem dX12_clause_225 : decode cX12_clause 225 = .ok (.getfield 88, 3) := by decide +kernel
theorem dX12_clause_228 : decode cX12_clause 228 = .ok (.aload_n 0, 1) := by decide +kernel
theorem dX12_clause_229 : decode cX12_clause 229 = .ok (.getfield 247, 3) := by decide +kernel
theorem dX12_clause_232 : decode cX12_clause 232 = .ok (.aload_n 0, 1) := by decide +kernel
theorem dX12_clause_233 : decode cX12_clause 233 = .ok (.getfield 64, 3) := by decide +kernel
theorem dX12_clause_236 : decode cX12_clause 236 = .ok (.aload_n 0, 1) := by decide +kernel
theorem dX12_clause_237 : decode cX12_clause 237 = .ok (.getfield 237, 3) := by decide +kernel
theorem dX12_clause_240 : decode cX12_clause 240 = .ok (.iaload, 1) := by decide +kernel
theorem dX12_clause_241 : decode cX12_clause 241 = .ok (.bipush 48, 2) := by decide +kernel
theorem dX12_clause_243 : decode cX12_clause 243 = .ok (.isub, 1) := by decide +kernel
theorem dX12_clause_244 : decode cX12_clause 244 = .ok (.iastore, 1) := by decide +kernel
theorem dX12_clause_245 : decode cX12_clause 245 = .ok (.aload_n 0, 1) := by decide +kernel
theorem dX12_clause_246 : decode cX12_clause 246 = .ok (.dup, 1) := by decide +kernel
theorem dX12_clause_247 : decode cX12_clause 247 = .ok (.getfield 247, 3) := by decide +kernel
theorem dX12_clause_250 : decode cX12_clause 250 = .ok (.iconst 1, 1) := by decide +kernel
theorem dX12_clause_251 : decode cX12_clause 251 = .ok (.iadd, 1) := by decide +kernel
theorem dX12_clause_252 : decode cX12_clause 252 = .ok (.putfield 247, 3) := by decide +kernel
theorem dX12_clause_255 : decode cX12_clause 255 = .ok (.aload_n 0, 1) := by decide +kernel
theorem dX12_clause_256 : decode cX12_clause 256 = .ok (.dup, 1) := by decide +kernel
theorem dX12_clause_257 : decode cX12_clause 257 = .ok (.getfield 237, 3) := by decide +kernel
theorem dX12_clause_260 : decode cX12_clause 260 = .ok (.iconst 1, 1) := by decide +kernel
theorem dX12_clause_261 : decode cX12_clause 261 = .ok (.iadd, 1) := by decide +kernel
theorem dX12_clause_262 : decode cX12_clause 262 = .ok (.putfield 237, 3) := by decide +kernel
theorem dX12_clause_265 : decode cX12_clause 265 = .ok (.iconst 1, 1) := by decide +kernel
theorem dX12_clause_266 : decode cX12_clause 266 = .ok (.ireturn, 1) := by decide +kernel
theorem dX12_fault_0 : decode cX12_fault 0 = .ok (.aload_n 0, 1) := by decide +kernel
theorem dX12_fault_1 : decode cX12_fault 1 = .ok (.iconst 0, 1) := by decide +kernel
theorem dX12_fault_2 : decode cX12_fault 2 = .ok (.putfield 237, 3) := by decide +kernel
theorem dX12_fault_5 : decode cX12_fault 5 = .ok (.aload_n 0, 1) := by decide +kernel
theorem dX12_fault_6 : decode cX12_fault 6 = .ok (.iconst 0, 1) := by decide +kernel
theorem dX12_fault_7 : decode cX12_fault 7 = .ok (.putfield 247, 3) := by decide +kernel
theorem dX12_fault_10 : decode cX12_fault 10 = .ok (.aload_n 0, 1) := by decide +kernel
theorem dX12_fault_11 : decode cX12_fault 11 = .ok (.invokevirtual 240, 3) := by decide +kernel
theorem dX12_fault_14 : decode cX12_fault 14 = .ok (.iconst (-1), 1) := by decide +kernel
theorem dX12_fault_15 : decode cX12_fault 15 = .ok (.if_icmp .ne 5, 3) := by decide +kernel
theorem dX12_fault_18 : decode cX12_fault 18 = .ok (.iconst (-1), 1) := by decide +kernel
theorem dX12_fault_19 : decode cX12_fault 19 = .ok (.ireturn, 1) := by decide +kernel
theorem dX12_fault_20 : decode cX12_fault 20 = .ok (.aload_n 0, 1) := by decide +kernel
theorem dX12_fault_21 : decode cX12_fault 21 = .ok (.invokevirtual 250, 3) := by decide +kernel
theorem dX12_fault_24 : decode cX12_fault 24 = .ok (.ifCond .ne 8, 3) := by decide +kernel
theorem dX12_fault_27 : decode cX12_fault 27 = .ok (.aload_n 0, 1) := by decide +kernel
theorem dX12_fault_28 : decode cX12_fault 28 = .ok (.getfield 237, 3) := by decide +kernel
theorem dX12_fault_31 : decode cX12_fault 31 = .ok (.ireturn, 1) := by decide +kernel
theorem dX12_fault_32 : decode cX12_fault 32 = .ok (.aload_n 0, 1) := by decide +kernel
theorem dX12_fault_33 : decode cX12_fault 33 = .ok (.invokevirtual 240, 3) := by decide +kernel
theorem dX12_fault_36 : decode cX12_fault 36 = .ok (.istore_n 1, 1) := by decide +kernel
theorem dX12_fault_37 : decode cX12_fault 37 = .ok (.iload_n 1, 1) := by decide +kernel
theorem dX12_fault_38 : decode cX12_fault 38 = .ok (.iconst (-1), 1) := by decide +kernel
theorem dX12_fault_39 : decode cX12_fault 39 = .ok (.if_icmp .ne 5, 3) := by decide +kernel
theorem dX12_fault_42 : decode cX12_fault 42 = .ok (.iconst (-1), 1) := by decide +kernel
theorem dX12_fault_43 : decode cX12_fault 43 = .ok (.ireturn, 1) := by decide +kernel
theorem dX12_fault_44 : decode cX12_fault 44 = .ok (.iload_n 1, 1) := by decide +kernel
theorem dX12_fault_45 : decode cX12_fault 45 = .ok (.bipush 59, 2) := by decide +kernel
theorem dX12_fault_47 : decode cX12_fault 47 = .ok (.if_icmp .eq 8, 3) := by decide +kernel
theorem dX12_fault_50 : decode cX12_fault 50 = .ok (.aload_n 0, 1) := by decide +kernel
theorem dX12_fault_51 : decode cX12_fault 51 = .ok (.getfield 237, 3) := by decide +kernel
theorem dX12_fault_54 : decode cX12_fault 54 = .ok (.ireturn, 1) := by decide +kernel
theorem dX12_fault_55 : decode cX12_fault 55 = .ok (.aload_n 0, 1) := by decide +kernel
theorem dX12_fault_56 : decode cX12_fault 56 = .ok (.dup, 1) := by decide +kernel
theorem dX12_fault_57 : decode cX12_fault 57 = .ok (.getfield 237, 3) := by decide +kernel
theorem dX12_fault_60 : decode cX12_fault 60 = .ok (.iconst 1, 1) := by decide +kernel
theorem dX12_fault_61 : decode cX12_fault 61 = .ok (.iadd, 1) := by decide +kernel
theorem dX12_fault_62 : decode cX12_fault 62 = .ok (.putfield 237, 3) := by decide +kernel
theorem dX12_fault_65 : decode cX12_fault 65 = .ok (.goto (-45), 3) := by decide +kernel
theorem dX12_rules_0 : decode cX12_rules 0 = .ok (.aload_n 0, 1) := by decide +kernel
theorem dX12_rules_1 : decode cX12_rules 1 = .ok (.invokevirtual 254, 3) := by decide +kernel
theorem dX12_rules_4 : decode cX12_rules 4 = .ok (.iconst (-1), 1) := by decide +kernel
theorem dX12_rules_5 : decode cX12_rules 5 = .ok (.if_icmp .eq 5, 3) := by decide +kernel
theorem dX12_rules_8 : decode cX12_rules 8 = .ok (.iconst 0, 1) := by decide +kernel
theorem dX12_rules_9 : decode cX12_rules 9 = .ok (.ireturn, 1) := by decide +kernel
theorem dX12_rules_10 : decode cX12_rules 10 = .ok (.aload_n 0, 1) := by decide +kernel
theorem dX12_rules_11 : decode cX12_rules 11 = .ok (.aload_n 0, 1) := by decide +kernel
theorem dX12_rules_12 : decode cX12_rules 12 = .ok (.getfield 247, 3) := by decide +kernel
theorem dX12_rules_15 : decode cX12_rules 15 = .ok (.putfield 215, 3) := by decide +kernel
theorem dX12_rules_18 : decode cX12_rules 18 = .ok (.iconst 0, 1) := by decide +kernel
theorem dX12_rules_19 : decode cX12_rules 19 = .ok (.istore_n 1, 1) := by decide +kernel
theorem dX12_rules_20 : decode cX12_rules 20 = .ok (.iload_n 1, 1) := by decide +kernel
theorem dX12_rules_21 : decode cX12_rules 21 = .ok (.aload_n 0, 1) := by decide +kernel
theorem dX12_rules_22 : decode cX12_rules 22 = .ok (.getfield 247, 3) := by decide +kernel
theorem dX12_rules_25 : decode cX12_rules 25 = .ok (.if_icmp .ge 57, 3) := by decide +kernel
theorem dX12_rules_28 : decode cX12_rules 28 = .ok (.aload_n 0, 1) := by decide +kernel
theorem dX12_rules_29 : decode cX12_rules 29 = .ok (.getfield 67, 3) := by decide +kernel
theorem dX12_rules_32 : decode cX12_rules 32 = .ok (.iload_n 1, 1) := by decide +kernel
theorem dX12_rules_33 : decode cX12_rules 33 = .ok (.aload_n 0, 1) := by decide +kernel
theorem dX12_rules_34 : decode cX12_rules 34 = .ok (.getfield 79, 3) := by decide +kernel
theorem dX12_rules_37 : decode cX12_rules 37 = .ok (.iload_n 1, 1) := by decide +kernel
theorem dX12_rules_38 : decode cX12_rules 38 = .ok (.iaload, 1) := by decide +kernel
theorem dX12_rules_39 : decode cX12_rules 39 = .ok (.iastore, 1) := by decide +kernel
theorem dX12_rules_40 : decode cX12_rules 40 = .ok (.aload_n 0, 1) := by decide +kernel
theorem dX12_rules_41 : decode cX12_rules 41 = .ok (.getfield 70, 3) := by decide +kernel
theorem dX12_rules_44 : decode cX12_rules 44 = .ok (.iload_n 1, 1) := by decide +kernel
theorem dX12_rules_45 : decode cX12_rules 45 = .ok (.aload_n 0, 1) := by decide +kernel
theorem dX12_rules_46 : decode cX12_rules 46 = .ok (.getfield 82, 3) := by decide +kernel
theorem dX12_rules_49 : decode cX12_rules 49 = .ok (.iload_n 1, 1) := by decide +kernel
theorem dX12_rules_50 : decode cX12_rules 50 = .ok (.iaload, 1) := by decide +kernel
theorem dX12_rules_51 : decode cX12_rules 51 = .ok (.iastore, 1) := by decide +kernel
theorem dX12_rules_52 : decode cX12_rules 52 = .ok (.aload_n 0, 1) := by decide +kernel
theorem dX12_rules_53 : decode cX12_rules 53 = .ok (.getfield 73, 3) := by decide +kernel
theorem dX12_rules_56 : decode cX12_rules 56 = .ok (.iload_n 1, 1) := by decide +kernel
theorem dX12_rules_57 : decode cX12_rules 57 = .ok (.aload_n 0, 1) := by decide +kernel
theorem dX12_rules_58 : decode cX12_rules 58 = .ok (.getfield 85, 3) := by decide +kernel
theorem dX12_rules_61 : decode cX12_rules 61 = .ok (.iload_n 1, 1) := by decide +kernel
theorem dX12_rules_62 : decode cX12_rules 62 = .ok (.iaload, 1) := by decide +kernel
theorem dX12_rules_63 : decode cX12_rules 63 = .ok (.iastore, 1) := by decide +kernel
theorem dX12_rules_64 : decode cX12_rules 64 = .ok (.aload_n 0, 1) := by decide +kernel
theorem dX12_rules_65 : decode cX12_rules 65 = .ok (.getfield 76, 3) := by decide +kernel
theorem dX12_rules_68 : decode cX12_rules 68 = .ok (.iload_n 1, 1) := by decide +kernel
theorem dX12_rules_69 : decode cX12_rules 69 = .ok (.aload_n 0, 1) := by decide +kernel
theorem dX12_rules_70 : decode cX12_rules 70 = .ok (.getfield 88, 3) := by decide +kernel
theorem dX12_rules_73 : decode cX12_rules 73 = .ok (.iload_n 1, 1) := by decide +kernel
theorem dX12_rules_74 : decode cX12_rules 74 = .ok (.iaload, 1) := by decide +kernel
theorem dX12_rules_75 : decode cX12_rules 75 = .ok (.iastore, 1) := by decide +kernel
theorem dX12_rules_76 : decode cX12_rules 76 = .ok (.iinc 1 1, 3) := by decide +kernel
theorem dX12_rules_79 : decode cX12_rules 79 = .ok (.goto (-59), 3) := by decide +kernel
theorem dX12_rules_82 : decode cX12_rules 82 = .ok (.aload_n 0, 1) := by decide +kernel
theorem dX12_rules_83 : decode cX12_rules 83 = .ok (.iconst 0, 1) := by decide +kernel
theorem dX12_rules_84 : decode cX12_rules 84 = .ok (.putfield 234, 3) := by decide +kernel
theorem dX12_rules_87 : decode cX12_rules 87 = .ok (.iconst 1, 1) := by decide +kernel
theorem dX12_rules_88 : decode cX12_rules 88 = .ok (.ireturn, 1) := by decide +kernel
theorem dX12_holds_0 : decode cX12_holds 0 = .ok (.aload_n 0, 1) := by decide +kernel
theorem dX12_holds_1 : decode cX12_holds 1 = .ok (.getfield 67, 3) := by decide +kernel
theorem dX12_holds_4 : decode cX12_holds 4 = .ok (.iload_n 1, 1) := by decide +kernel
theorem dX12_holds_5 : decode cX12_holds 5 = .ok (.iaload, 1) := by decide +kernel
theorem dX12_holds_6 : decode cX12_holds 6 = .ok (.istore_n 2, 1) := by decide +kernel
theorem dX12_holds_7 : decode cX12_holds 7 = .ok (.iload_n 2, 1) := by decide +kernel
theorem dX12_holds_8 : decode cX12_holds 8 = .ok (.bipush 104, 2) := by decide +kernel
theorem dX12_holds_10 : decode cX12_holds 10 = .ok (.if_icmp .ne 10, 3) := by decide +kernel
theorem dX12_holds_13 : decode cX12_holds 13 = .ok (.aload_n 0, 1) := by decide +kernel
theorem dX12_holds_14 : decode cX12_holds 14 = .ok (.getfield 212, 3) := by decide +kernel
theorem dX12_holds_17 : decode cX12_holds 17 = .ok (.goto 44, 3) := by decide +kernel
theorem dX12_holds_20 : decode cX12_holds 20 = .ok (.iload_n 2, 1) := by decide +kernel
theorem dX12_holds_21 : decode cX12_holds 21 = .ok (.bipush 109, 2) := by decide +kernel
theorem dX12_holds_23 : decode cX12_holds 23 = .ok (.if_icmp .ne 10, 3) := by decide +kernel
theorem dX12_holds_26 : decode cX12_holds 26 = .ok (.aload_n 0, 1) := by decide +kernel
theorem dX12_holds_27 : decode cX12_holds 27 = .ok (.getfield 206, 3) := by decide +kernel
theorem dX12_holds_30 : decode cX12_holds 30 = .ok (.goto 31, 3) := by decide +kernel
theorem dX12_holds_33 : decode cX12_holds 33 = .ok (.iload_n 2, 1) := by decide +kernel
theorem dX12_holds_34 : decode cX12_holds 34 = .ok (.bipush 99, 2) := by decide +kernel
theorem dX12_holds_36 : decode cX12_holds 36 = .ok (.if_icmp .ne 18, 3) := by decide +kernel
theorem dX12_holds_39 : decode cX12_holds 39 = .ok (.aload_n 0, 1) := by decide +kernel
theorem dX12_holds_40 : decode cX12_holds 40 = .ok (.getfield 48, 3) := by decide +kernel
theorem dX12_holds_43 : decode cX12_holds 43 = .ok (.invokestatic 195, 3) := by decide +kernel
theorem dX12_holds_46 : decode cX12_holds 46 = .ok (.aload_n 0, 1) := by decide +kernel
theorem dX12_holds_47 : decode cX12_holds 47 = .ok (.getfield 199, 3) := by decide +kernel
theorem dX12_holds_50 : decode cX12_holds 50 = .ok (.isub, 1) := by decide +kernel
theorem dX12_holds_51 : decode cX12_holds 51 = .ok (.goto 10, 3) := by decide +kernel
theorem dX12_holds_54 : decode cX12_holds 54 = .ok (.aload_n 0, 1) := by decide +kernel
theorem dX12_holds_55 : decode cX12_holds 55 = .ok (.getfield 45, 3) := by decide +kernel
theorem dX12_holds_58 : decode cX12_holds 58 = .ok (.invokestatic 195, 3) := by decide +kernel
theorem dX12_holds_61 : decode cX12_holds 61 = .ok (.istore_n 3, 1) := by decide +kernel
theorem dX12_holds_62 : decode cX12_holds 62 = .ok (.aload_n 0, 1) := by decide +kernel
theorem dX12_holds_63 : decode cX12_holds 63 = .ok (.getfield 70, 3) := by decide +kernel
theorem dX12_holds_66 : decode cX12_holds 66 = .ok (.iload_n 1, 1) := by decide +kernel
theorem dX12_holds_67 : decode cX12_holds 67 = .ok (.iaload, 1) := by decide +kernel
theorem dX12_holds_68 : decode cX12_holds 68 = .ok (.bipush 61, 2) := by decide +kernel
theorem dX12_holds_70 : decode cX12_holds 70 = .ok (.if_icmp .ne 21, 3) := by decide +kernel
theorem dX12_holds_73 : decode cX12_holds 73 = .ok (.iload_n 3, 1) := by decide +kernel
theorem dX12_holds_74 : decode cX12_holds 74 = .ok (.aload_n 0, 1) := by decide +kernel
theorem dX12_holds_75 : decode cX12_holds 75 = .ok (.getfield 73, 3) := by decide +kernel
theorem dX12_holds_78 : decode cX12_holds 78 = .ok (.iload_n 1, 1) := by decide +kernel
theorem dX12_holds_79 : decode cX12_holds 79 = .ok (.iaload, 1) := by decide +kernel
theorem dX12_holds_80 : decode cX12_holds 80 = .ok (.if_icmp .ne 7, 3) := by decide +kernel
theorem dX12_holds_83 : decode cX12_holds 83 = .ok (.iconst 1, 1) := by decide +kernel
theorem dX12_holds_84 : decode cX12_holds 84 = .ok (.goto 51, 3) := by decide +kernel
theorem dX12_holds_87 : decode cX12_holds 87 = .ok (.iconst 0, 1) := by decide +kernel
theorem dX12_holds_88 : decode cX12_holds 88 = .ok (.goto 47, 3) := by decide +kernel
theorem dX12_holds_91 : decode cX12_holds 91 = .ok (.aload_n 0, 1) := by decide +kernel
theorem dX12_holds_92 : decode cX12_holds 92 = .ok (.getfield 70, 3) := by decide +kernel
theorem dX12_holds_95 : decode cX12_holds 95 = .ok (.iload_n 1, 1) := by decide +kernel
theorem dX12_holds_96 : decode cX12_holds 96 = .ok (.iaload, 1) := by decide +kernel
theorem dX12_holds_97 : decode cX12_holds 97 = .ok (.bipush 60, 2) := by decide +kernel
theorem dX12_holds_99 : decode cX12_holds 99 = .ok (.if_icmp .ne 21, 3) := by decide +kernel
theorem dX12_holds_102 : decode cX12_holds 102 = .ok (.iload_n 3, 1) := by decide +kernel
theorem dX12_holds_103 : decode cX12_holds 103 = .ok (.aload_n 0, 1) := by decide +kernel
theorem dX12_holds_104 : decode cX12_holds 104 = .ok (.getfield 73, 3) := by decide +kernel
theorem dX12_holds_107 : decode cX12_holds 107 = .ok (.iload_n 1, 1) := by decide +kernel
theorem dX12_holds_108 : decode cX12_holds 108 = .ok (.iaload, 1) := by decide +kernel
theorem dX12_holds_109 : decode cX12_holds 109 = .ok (.if_icmp .ge 7, 3) := by decide +kernel
theorem dX12_holds_112 : decode cX12_holds 112 = .ok (.iconst 1, 1) := by decide +kernel
theorem dX12_holds_113 : decode cX12_holds 113 = .ok (.goto 22, 3) := by decide +kernel
theorem dX12_holds_116 : decode cX12_holds 116 = .ok (.iconst 0, 1) := by decide +kernel
theorem dX12_holds_117 : decode cX12_holds 117 = .ok (.goto 18, 3) := by decide +kernel
theorem dX12_holds_120 : decode cX12_holds 120 = .ok (.iload_n 3, 1) := by decide +kernel
theorem dX12_holds_121 : decode cX12_holds 121 = .ok (.aload_n 0, 1) := by decide +kernel
theorem dX12_holds_122 : decode cX12_holds 122 = .ok (.getfield 73, 3) := by decide +kernel
theorem dX12_holds_125 : decode cX12_holds 125 = .ok (.iload_n 1, 1) := by decide +kernel
theorem dX12_holds_126 : decode cX12_holds 126 = .ok (.iaload, 1) := by decide +kernel
theorem dX12_holds_127 : decode cX12_holds 127 = .ok (.if_icmp .le 7, 3) := by decide +kernel
theorem dX12_holds_130 : decode cX12_holds 130 = .ok (.iconst 1, 1) := by decide +kernel
theorem dX12_holds_131 : decode cX12_holds 131 = .ok (.goto 4, 3) := by decide +kernel
theorem dX12_holds_134 : decode cX12_holds 134 = .ok (.iconst 0, 1) := by decide +kernel
theorem dX12_holds_135 : decode cX12_holds 135 = .ok (.ireturn, 1) := by decide +kernel
theorem dX12_draw_0 : decode cX12_draw 0 = .ok (.aload_n 0, 1) := by decide +kernel
theorem dX12_draw_1 : decode cX12_draw 1 = .ok (.getfield 51, 3) := by decide +kernel
theorem dX12_draw_4 : decode cX12_draw 4 = .ok (.invokestatic 195, 3) := by decide +kernel
theorem dX12_draw_7 : decode cX12_draw 7 = .ok (.ifCond .eq 12, 3) := by decide +kernel
theorem dX12_draw_10 : decode cX12_draw 10 = .ok (.aload_n 0, 1) := by decide +kernel
theorem dX12_draw_11 : decode cX12_draw 11 = .ok (.getfield 257, 3) := by decide +kernel
theorem dX12_draw_14 : decode cX12_draw 14 = .ok (.bipush 100, 2) := by decide +kernel
theorem dX12_draw_16 : decode cX12_draw 16 = .ok (.if_icmp .ne 5, 3) := by decide +kernel
theorem dX12_draw_19 : decode cX12_draw 19 = .ok (.iconst (-1), 1) := by decide +kernel
theorem dX12_draw_20 : decode cX12_draw 20 = .ok (.ireturn, 1) := by decide +kernel
theorem dX12_draw_21 : decode cX12_draw 21 = .ok (.lconst 0, 1) := by decide +kernel
theorem dX12_draw_22 : decode cX12_draw 22 = .ok (.lstore_n 1, 1) := by decide +kernel
theorem dX12_draw_23 : decode cX12_draw 23 = .ok (.lconst 0, 1) := by decide +kernel
theorem dX12_draw_24 : decode cX12_draw 24 = .ok (.lstore_n 3, 1) := by decide +kernel
theorem dX12_draw_25 : decode cX12_draw 25 = .ok (.iconst 0, 1) := by decide +kernel
theorem dX12_draw_26 : decode cX12_draw 26 = .ok (.istore 5, 2) := by decide +kernel
theorem dX12_draw_28 : decode cX12_draw 28 = .ok (.iload 5, 2) := by decide +kernel
theorem dX12_draw_30 : decode cX12_draw 30 = .ok (.aload_n 0, 1) := by decide +kernel
theorem dX12_draw_31 : decode cX12_draw 31 = .ok (.getfield 166, 3) := by decide +kernel
theorem dX12_draw_34 : decode cX12_draw 34 = .ok (.if_icmp .ge 71, 3) := by decide +kernel
theorem dX12_draw_37 : decode cX12_draw 37 = .ok (.aload_n 0, 1) := by decide +kernel
theorem dX12_draw_38 : decode cX12_draw 38 = .ok (.getfield 91, 3) := by decide +kernel
theorem dX12_draw_41 : decode cX12_draw 41 = .ok (.bipush 12, 2) := by decide +kernel
theorem dX12_draw_43 : decode cX12_draw 43 = .ok (.aload_n 0, 1) := by decide +kernel
theorem dX12_draw_44 : decode cX12_draw 44 = .ok (.getfield 257, 3) := by decide +kernel
theorem dX12_draw_47 : decode cX12_draw 47 = .ok (.imul, 1) := by decide +kernel
theorem dX12_draw_48 : decode cX12_draw 48 = .ok (.iload 5, 2) := by decide +kernel
theorem dX12_draw_50 : decode cX12_draw 50 = .ok (.iadd, 1) := by decide +kernel
theorem dX12_draw_51 : decode cX12_draw 51 = .ok (.aload_n 0, 1) := by decide +kernel
theorem dX12_draw_52 : decode cX12_draw 52 = .ok (.getfield 51, 3) := by decide +kernel
theorem dX12_draw_55 : decode cX12_draw 55 = .ok (.iload 5, 2) := by decide +kernel
theorem dX12_draw_57 : decode cX12_draw 57 = .ok (.iaload, 1) := by decide +kernel
theorem dX12_draw_58 : decode cX12_draw 58 = .ok (.iastore, 1) := by decide +kernel
theorem dX12_draw_59 : decode cX12_draw 59 = .ok (.lload_n 1, 1) := by decide +kernel
theorem dX12_draw_60 : decode cX12_draw 60 = .ok (.aload_n 0, 1) := by decide +kernel
theorem dX12_draw_61 : decode cX12_draw 61 = .ok (.getfield 51, 3) := by decide +kernel
theorem dX12_draw_64 : decode cX12_draw 64 = .ok (.iload 5, 2) := by decide +kernel
theorem dX12_draw_66 : decode cX12_draw 66 = .ok (.iaload, 1) := by decide +kernel
theorem dX12_draw_67 : decode cX12_draw 67 = .ok (.i2l, 1) := by decide +kernel
theorem dX12_draw_68 : decode cX12_draw 68 = .ok (.aload_n 0, 1) := by decide +kernel
theorem dX12_draw_69 : decode cX12_draw 69 = .ok (.getfield 19, 3) := by decide +kernel
theorem dX12_draw_72 : decode cX12_draw 72 = .ok (.iload 5, 2) := by decide +kernel
theorem dX12_draw_74 : decode cX12_draw 74 = .ok (.iaload, 1) := by decide +kernel
theorem dX12_draw_75 : decode cX12_draw 75 = .ok (.i2l, 1) := by decide +kernel
theorem dX12_draw_76 : decode cX12_draw 76 = .ok (.lmul, 1) := by decide +kernel
theorem dX12_draw_77 : decode cX12_draw 77 = .ok (.ladd, 1) := by decide +kernel
theorem dX12_draw_78 : decode cX12_draw 78 = .ok (.lstore_n 1, 1) := by decide +kernel
theorem dX12_draw_79 : decode cX12_draw 79 = .ok (.lload_n 3, 1) := by decide +kernel
theorem dX12_draw_80 : decode cX12_draw 80 = .ok (.aload_n 0, 1) := by decide +kernel
theorem dX12_draw_81 : decode cX12_draw 81 = .ok (.getfield 51, 3) := by decide +kernel
theorem dX12_draw_84 : decode cX12_draw 84 = .ok (.iload 5, 2) := by decide +kernel
theorem dX12_draw_86 : decode cX12_draw 86 = .ok (.iaload, 1) := by decide +kernel
theorem dX12_draw_87 : decode cX12_draw 87 = .ok (.i2l, 1) := by decide +kernel
theorem dX12_draw_88 : decode cX12_draw 88 = .ok (.aload_n 0, 1) := by decide +kernel
theorem dX12_draw_89 : decode cX12_draw 89 = .ok (.getfield 22, 3) := by decide +kernel
theorem dX12_draw_92 : decode cX12_draw 92 = .ok (.iload 5, 2) := by decide +kernel
theorem dX12_draw_94 : decode cX12_draw 94 = .ok (.iaload, 1) := by decide +kernel
theorem dX12_draw_95 : decode cX12_draw 95 = .ok (.i2l, 1) := by decide +kernel
theorem dX12_draw_96 : decode cX12_draw 96 = .ok (.lmul, 1) := by decide +kernel
theorem dX12_draw_97 : decode cX12_draw 97 = .ok (.ladd, 1) := by decide +kernel
theorem dX12_draw_98 : decode cX12_draw 98 = .ok (.lstore_n 3, 1) := by decide +kernel
theorem dX12_draw_99 : decode cX12_draw 99 = .ok (.iinc 5 1, 3) := by decide +kernel
theorem dX12_draw_102 : decode cX12_draw 102 = .ok (.goto (-74), 3) := by decide +kernel
theorem dX12_draw_105 : decode cX12_draw 105 = .ok (.aload_n 0, 1) := by decide +kernel
theorem dX12_draw_106 : decode cX12_draw 106 = .ok (.aload_n 0, 1) := by decide +kernel
theorem dX12_draw_107 : decode cX12_draw 107 = .ok (.getfield 199, 3) := by decide +kernel
theorem dX12_draw_110 : decode cX12_draw 110 = .ok (.aload_n 0, 1) := by decide +kernel
theorem dX12_draw_111 : decode cX12_draw 111 = .ok (.getfield 48, 3) := by decide +kernel
theorem dX12_draw_114 : decode cX12_draw 114 = .ok (.invokevirtual 202, 3) := by decide +kernel
theorem dX12_draw_117 : decode cX12_draw 117 = .ok (.iconst 0, 1) := by decide +kernel
theorem dX12_draw_118 : decode cX12_draw 118 = .ok (.istore 5, 2) := by decide +kernel
theorem dX12_draw_120 : decode cX12_draw 120 = .ok (.iload 5, 2) := by decide +kernel
theorem dX12_draw_122 : decode cX12_draw 122 = .ok (.bipush 8, 2) := by decide +kernel
theorem dX12_draw_124 : decode cX12_draw 124 = .ok (.if_icmp .ge 31, 3) := by decide +kernel
theorem dX12_draw_127 : decode cX12_draw 127 = .ok (.aload_n 0, 1) := by decide +kernel
theorem dX12_draw_128 : decode cX12_draw 128 = .ok (.getfield 94, 3) := by decide +kernel
theorem dX12_draw_131 : decode cX12_draw 131 = .ok (.bipush 8, 2) := by decide +kernel
theorem dX12_draw_133 : decode cX12_draw 133 = .ok (.aload_n 0, 1) := by decide +kernel
theorem dX12_draw_134 : decode cX12_draw 134 = .ok (.getfield 257, 3) := by decide +kernel
theorem dX12_draw_137 : decode cX12_draw 137 = .ok (.imul, 1) := by decide +kernel
theorem dX12_draw_138 : decode cX12_draw 138 = .ok (.iload 5, 2) := by decide +kernel
theorem dX12_draw_140 : decode cX12_draw 140 = .ok (.iadd, 1) := by decide +kernel
theorem dX12_draw_141 : decode cX12_draw 141 = .ok (.aload_n 0, 1) := by decide +kernel
theorem dX12_draw_142 : decode cX12_draw 142 = .ok (.getfield 38, 3) := by decide +kernel
theorem dX12_draw_145 : decode cX12_draw 145 = .ok (.iload 5, 2) := by decide +kernel
theorem dX12_draw_147 : decode cX12_draw 147 = .ok (.iaload, 1) := by decide +kernel
theorem dX12_draw_148 : decode cX12_draw 148 = .ok (.iastore, 1) := by decide +kernel
theorem dX12_draw_149 : decode cX12_draw 149 = .ok (.iinc 5 1, 3) := by decide +kernel
theorem dX12_draw_152 : decode cX12_draw 152 = .ok (.goto (-32), 3) := by decide +kernel
theorem dX12_draw_155 : decode cX12_draw 155 = .ok (.aload_n 0, 1) := by decide +kernel
theorem dX12_draw_156 : decode cX12_draw 156 = .ok (.getfield 97, 3) := by decide +kernel
theorem dX12_draw_159 : decode cX12_draw 159 = .ok (.aload_n 0, 1) := by decide +kernel
theorem dX12_draw_160 : decode cX12_draw 160 = .ok (.getfield 257, 3) := by decide +kernel
theorem dX12_draw_163 : decode cX12_draw 163 = .ok (.lload_n 1, 1) := by decide +kernel
theorem dX12_draw_164 : decode cX12_draw 164 = .ok (.ldc2_w 260, 3) := by decide +kernel
theorem dX12_draw_167 : decode cX12_draw 167 = .ok (.ldiv, 1) := by decide +kernel
theorem dX12_draw_168 : decode cX12_draw 168 = .ok (.l2i, 1) := by decide +kernel
theorem dX12_draw_169 : decode cX12_draw 169 = .ok (.iastore, 1) := by decide +kernel
theorem dX12_draw_170 : decode cX12_draw 170 = .ok (.aload_n 0, 1) := by decide +kernel
theorem dX12_draw_171 : decode cX12_draw 171 = .ok (.getfield 100, 3) := by decide +kernel
theorem dX12_draw_174 : decode cX12_draw 174 = .ok (.aload_n 0, 1) := by decide +kernel
theorem dX12_draw_175 : decode cX12_draw 175 = .ok (.getfield 257, 3) := by decide +kernel
theorem dX12_draw_178 : decode cX12_draw 178 = .ok (.lload_n 3, 1) := by decide +kernel
theorem dX12_draw_179 : decode cX12_draw 179 = .ok (.ldc2_w 262, 3) := by decide +kernel
theorem dX12_draw_182 : decode cX12_draw 182 = .ok (.ladd, 1) := by decide +kernel
theorem dX12_draw_183 : decode cX12_draw 183 = .ok (.ldc2_w 260, 3) := by decide +kernel
theorem dX12_draw_186 : decode cX12_draw 186 = .ok (.ldiv, 1) := by decide +kernel
theorem dX12_draw_187 : decode cX12_draw 187 = .ok (.l2i, 1) := by decide +kernel
theorem dX12_draw_188 : decode cX12_draw 188 = .ok (.iastore, 1) := by decide +kernel
theorem dX12_draw_189 : decode cX12_draw 189 = .ok (.aload_n 0, 1) := by decide +kernel
theorem dX12_draw_190 : decode cX12_draw 190 = .ok (.getfield 103, 3) := by decide +kernel
theorem dX12_draw_193 : decode cX12_draw 193 = .ok (.aload_n 0, 1) := by decide +kernel
theorem dX12_draw_194 : decode cX12_draw 194 = .ok (.getfield 257, 3) := by decide +kernel
theorem dX12_draw_197 : decode cX12_draw 197 = .ok (.aload_n 0, 1) := by decide +kernel
theorem dX12_draw_198 : decode cX12_draw 198 = .ok (.getfield 224, 3) := by decide +kernel
theorem dX12_draw_201 : decode cX12_draw 201 = .ok (.ifCond .ne 7, 3) := by decide +kernel
theorem dX12_draw_204 : decode cX12_draw 204 = .ok (.iconst 0, 1) := by decide +kernel
theorem dX12_draw_205 : decode cX12_draw 205 = .ok (.goto 17, 3) := by decide +kernel
theorem dX12_draw_208 : decode cX12_draw 208 = .ok (.aload_n 0, 1) := by decide +kernel
theorem dX12_draw_209 : decode cX12_draw 209 = .ok (.getfield 224, 3) := by decide +kernel
theorem dX12_draw_212 : decode cX12_draw 212 = .ok (.bipush 10, 2) := by decide +kernel
theorem dX12_draw_214 : decode cX12_draw 214 = .ok (.if_icmp .gt 7, 3) := by decide +kernel
theorem dX12_draw_217 : decode cX12_draw 217 = .ok (.iconst 1, 1) := by decide +kernel
theorem dX12_draw_218 : decode cX12_draw 218 = .ok (.goto 4, 3) := by decide +kernel
theorem dX12_draw_221 : decode cX12_draw 221 = .ok (.iconst 2, 1) := by decide +kernel
theorem dX12_draw_222 : decode cX12_draw 222 = .ok (.iastore, 1) := by decide +kernel
theorem dX12_draw_223 : decode cX12_draw 223 = .ok (.aload_n 0, 1) := by decide +kernel
theorem dX12_draw_224 : decode cX12_draw 224 = .ok (.getfield 106, 3) := by decide +kernel
theorem dX12_draw_227 : decode cX12_draw 227 = .ok (.aload_n 0, 1) := by decide +kernel
theorem dX12_draw_228 : decode cX12_draw 228 = .ok (.getfield 257, 3) := by decide +kernel
theorem dX12_draw_231 : decode cX12_draw 231 = .ok (.iconst 0, 1) := by decide +kernel
theorem dX12_draw_232 : decode cX12_draw 232 = .ok (.iastore, 1) := by decide +kernel
theorem dX12_draw_233 : decode cX12_draw 233 = .ok (.aload_n 0, 1) := by decide +kernel
theorem dX12_draw_234 : decode cX12_draw 234 = .ok (.getfield 109, 3) := by decide +kernel
theorem dX12_draw_237 : decode cX12_draw 237 = .ok (.aload_n 0, 1) := by decide +kernel
theorem dX12_draw_238 : decode cX12_draw 238 = .ok (.getfield 257, 3) := by decide +kernel
theorem dX12_draw_241 : decode cX12_draw 241 = .ok (.aload_n 0, 1) := by decide +kernel
theorem dX12_draw_242 : decode cX12_draw 242 = .ok (.getfield 191, 3) := by decide +kernel
theorem dX12_draw_245 : decode cX12_draw 245 = .ok (.iastore, 1) := by decide +kernel
theorem dX12_draw_246 : decode cX12_draw 246 = .ok (.aload_n 0, 1) := by decide +kernel
theorem dX12_draw_247 : decode cX12_draw 247 = .ok (.dup, 1) := by decide +kernel
theorem dX12_draw_248 : decode cX12_draw 248 = .ok (.getfield 264, 3) := by decide +kernel
theorem dX12_draw_251 : decode cX12_draw 251 = .ok (.aload_n 0, 1) := by decide +kernel
theorem dX12_draw_252 : decode cX12_draw 252 = .ok (.getfield 45, 3) := by decide +kernel
theorem dX12_draw_255 : decode cX12_draw 255 = .ok (.invokestatic 195, 3) := by decide +kernel
theorem dX12_draw_258 : decode cX12_draw 258 = .ok (.iadd, 1) := by decide +kernel
theorem dX12_draw_259 : decode cX12_draw 259 = .ok (.putfield 264, 3) := by decide +kernel
theorem dX12_draw_262 : decode cX12_draw 262 = .ok (.iconst 0, 1) := by decide +kernel
theorem dX12_draw_263 : decode cX12_draw 263 = .ok (.istore 5, 2) := by decide +kernel
theorem dX12_draw_265 : decode cX12_draw 265 = .ok (.iload 5, 2) := by decide +kernel
theorem dX12_draw_267 : decode cX12_draw 267 = .ok (.bipush 12, 2) := by decide +kernel
theorem dX12_draw_269 : decode cX12_draw 269 = .ok (.if_icmp .ge 25, 3) := by decide +kernel
theorem dX12_draw_272 : decode cX12_draw 272 = .ok (.aload_n 0, 1) := by decide +kernel
theorem dX12_draw_273 : decode cX12_draw 273 = .ok (.getfield 45, 3) := by decide +kernel
theorem dX12_draw_276 : decode cX12_draw 276 = .ok (.iload 5, 2) := by decide +kernel
theorem dX12_draw_278 : decode cX12_draw 278 = .ok (.iconst 0, 1) := by decide +kernel
theorem dX12_draw_279 : decode cX12_draw 279 = .ok (.iastore, 1) := by decide +kernel
theorem dX12_draw_280 : decode cX12_draw 280 = .ok (.aload_n 0, 1) := by decide +kernel
theorem dX12_draw_281 : decode cX12_draw 281 = .ok (.getfield 51, 3) := by decide +kernel
theorem dX12_draw_284 : decode cX12_draw 284 = .ok (.iload 5, 2) := by decide +kernel
theorem dX12_draw_286 : decode cX12_draw 286 = .ok (.iconst 0, 1) := by decide +kernel
theorem dX12_draw_287 : decode cX12_draw 287 = .ok (.iastore, 1) := by decide +kernel
theorem dX12_draw_288 : decode cX12_draw 288 = .ok (.iinc 5 1, 3) := by decide +kernel
theorem dX12_draw_291 : decode cX12_draw 291 = .ok (.goto (-26), 3) := by decide +kernel
theorem dX12_draw_294 : decode cX12_draw 294 = .ok (.iconst 0, 1) := by decide +kernel
theorem dX12_draw_295 : decode cX12_draw 295 = .ok (.istore 5, 2) := by decide +kernel
theorem dX12_draw_297 : decode cX12_draw 297 = .ok (.iload 5, 2) := by decide +kernel
theorem dX12_draw_299 : decode cX12_draw 299 = .ok (.bipush 8, 2) := by decide +kernel
theorem dX12_draw_301 : decode cX12_draw 301 = .ok (.if_icmp .ge 17, 3) := by decide +kernel
theorem dX12_draw_304 : decode cX12_draw 304 = .ok (.aload_n 0, 1) := by decide +kernel
theorem dX12_draw_305 : decode cX12_draw 305 = .ok (.getfield 48, 3) := by decide +kernel
theorem dX12_draw_308 : decode cX12_draw 308 = .ok (.iload 5, 2) := by decide +kernel
theorem dX12_draw_310 : decode cX12_draw 310 = .ok (.iconst 0, 1) := by decide +kernel
theorem dX12_draw_311 : decode cX12_draw 311 = .ok (.iastore, 1) := by decide +kernel
theorem dX12_draw_312 : decode cX12_draw 312 = .ok (.iinc 5 1, 3) := by decide +kernel
theorem dX12_draw_315 : decode cX12_draw 315 = .ok (.goto (-18), 3) := by decide +kernel
theorem dX12_draw_318 : decode cX12_draw 318 = .ok (.aload_n 0, 1) := by decide +kernel
theorem dX12_draw_319 : decode cX12_draw 319 = .ok (.iconst 0, 1) := by decide +kernel
theorem dX12_draw_320 : decode cX12_draw 320 = .ok (.putfield 199, 3) := by decide +kernel
theorem dX12_draw_323 : decode cX12_draw 323 = .ok (.aload_n 0, 1) := by decide +kernel
theorem dX12_draw_324 : decode cX12_draw 324 = .ok (.iconst 0, 1) := by decide +kernel
theorem dX12_draw_325 : decode cX12_draw 325 = .ok (.putfield 209, 3) := by decide +kernel
theorem dX12_draw_328 : decode cX12_draw 328 = .ok (.aload_n 0, 1) := by decide +kernel
theorem dX12_draw_329 : decode cX12_draw 329 = .ok (.iconst 0, 1) := by decide +kernel
theorem dX12_draw_330 : decode cX12_draw 330 = .ok (.putfield 206, 3) := by decide +kernel
theorem dX12_draw_333 : decode cX12_draw 333 = .ok (.aload_n 0, 1) := by decide +kernel
theorem dX12_draw_334 : decode cX12_draw 334 = .ok (.iconst 0, 1) := by decide +kernel
theorem dX12_draw_335 : decode cX12_draw 335 = .ok (.putfield 212, 3) := by decide +kernel
theorem dX12_draw_338 : decode cX12_draw 338 = .ok (.aload_n 0, 1) := by decide +kernel
theorem dX12_draw_339 : decode cX12_draw 339 = .ok (.iconst 0, 1) := by decide +kernel
theorem dX12_draw_340 : decode cX12_draw 340 = .ok (.putfield 221, 3) := by decide +kernel
theorem dX12_draw_343 : decode cX12_draw 343 = .ok (.aload_n 0, 1) := by decide +kernel
theorem dX12_draw_344 : decode cX12_draw 344 = .ok (.iconst 0, 1) := by decide +kernel
theorem dX12_draw_345 : decode cX12_draw 345 = .ok (.putfield 224, 3) := by decide +kernel
theorem dX12_draw_348 : decode cX12_draw 348 = .ok (.aload_n 0, 1) := by decide +kernel
theorem dX12_draw_349 : decode cX12_draw 349 = .ok (.iconst (-1), 1) := by decide +kernel
theorem dX12_draw_350 : decode cX12_draw 350 = .ok (.putfield 54, 3) := by decide +kernel
theorem dX12_draw_353 : decode cX12_draw 353 = .ok (.aload_n 0, 1) := by decide +kernel
theorem dX12_draw_354 : decode cX12_draw 354 = .ok (.dup, 1) := by decide +kernel
theorem dX12_draw_355 : decode cX12_draw 355 = .ok (.getfield 257, 3) := by decide +kernel
theorem dX12_draw_358 : decode cX12_draw 358 = .ok (.iconst 1, 1) := by decide +kernel
theorem dX12_draw_359 : decode cX12_draw 359 = .ok (.iadd, 1) := by decide +kernel
theorem dX12_draw_360 : decode cX12_draw 360 = .ok (.putfield 257, 3) := by decide +kernel
theorem dX12_draw_363 : decode cX12_draw 363 = .ok (.aload_n 0, 1) := by decide +kernel
theorem dX12_draw_364 : decode cX12_draw 364 = .ok (.getfield 257, 3) := by decide +kernel
theorem dX12_draw_367 : decode cX12_draw 367 = .ok (.iconst 1, 1) := by decide +kernel
theorem dX12_draw_368 : decode cX12_draw 368 = .ok (.isub, 1) := by decide +kernel
theorem dX12_draw_369 : decode cX12_draw 369 = .ok (.ireturn, 1) := by decide +kernel
theorem dX12_isBar_0 : decode cX12_isBar 0 = .ok (.iload_n 1, 1) := by decide +kernel
theorem dX12_isBar_1 : decode cX12_isBar 1 = .ok (.iconst 0, 1) := by decide +kernel
theorem dX12_isBar_2 : decode cX12_isBar 2 = .ok (.aload_n 0, 1) := by decide +kernel
theorem dX12_isBar_3 : decode cX12_isBar 3 = .ok (.getfield 257, 3) := by decide +kernel
theorem dX12_isBar_6 : decode cX12_isBar 6 = .ok (.iconst 1, 1) := by decide +kernel
theorem dX12_isBar_7 : decode cX12_isBar 7 = .ok (.isub, 1) := by decide +kernel
theorem dX12_isBar_8 : decode cX12_isBar 8 = .ok (.invokestatic 169, 3) := by decide +kernel
theorem dX12_isBar_11 : decode cX12_isBar 11 = .ok (.ireturn, 1) := by decide +kernel
theorem dX12_sortOf_0 : decode cX12_sortOf 0 = .ok (.iconst 0, 1) := by decide +kernel
theorem dX12_sortOf_1 : decode cX12_sortOf 1 = .ok (.aload_n 0, 1) := by decide +kernel
theorem dX12_sortOf_2 : decode cX12_sortOf 2 = .ok (.getfield 103, 3) := by decide +kernel
theorem dX12_sortOf_5 : decode cX12_sortOf 5 = .ok (.iload_n 1, 1) := by decide +kernel
theorem dX12_sortOf_6 : decode cX12_sortOf 6 = .ok (.iaload, 1) := by decide +kernel
theorem dX12_sortOf_7 : decode cX12_sortOf 7 = .ok (.aload_n 0, 1) := by decide +kernel
theorem dX12_sortOf_8 : decode cX12_sortOf 8 = .ok (.getfield 106, 3) := by decide +kernel
theorem dX12_sortOf_11 : decode cX12_sortOf 11 = .ok (.iload_n 1, 1) := by decide +kernel
theorem dX12_sortOf_12 : decode cX12_sortOf 12 = .ok (.iaload, 1) := by decide +kernel
theorem dX12_sortOf_13 : decode cX12_sortOf 13 = .ok (.iconst 2, 1) := by decide +kernel
theorem dX12_sortOf_14 : decode cX12_sortOf 14 = .ok (.idiv, 1) := by decide +kernel
theorem dX12_sortOf_15 : decode cX12_sortOf 15 = .ok (.isub, 1) := by decide +kernel
theorem dX12_sortOf_16 : decode cX12_sortOf 16 = .ok (.invokestatic 182, 3) := by decide +kernel
theorem dX12_sortOf_19 : decode cX12_sortOf 19 = .ok (.ireturn, 1) := by decide +kernel
theorem dX12_forge_0 : decode cX12_forge 0 = .ok (.aload_n 0, 1) := by decide +kernel
theorem dX12_forge_1 : decode cX12_forge 1 = .ok (.iload_n 1, 1) := by decide +kernel
theorem dX12_forge_2 : decode cX12_forge 2 = .ok (.invokevirtual 267, 3) := by decide +kernel
theorem dX12_forge_5 : decode cX12_forge 5 = .ok (.ifCond .eq 26, 3) := by decide +kernel
theorem dX12_forge_8 : decode cX12_forge 8 = .ok (.iload_n 2, 1) := by decide +kernel
theorem dX12_forge_9 : decode cX12_forge 9 = .ok (.iconst 1, 1) := by decide +kernel
theorem dX12_forge_10 : decode cX12_forge 10 = .ok (.bipush 9, 2) := by decide +kernel
theorem dX12_forge_12 : decode cX12_forge 12 = .ok (.invokestatic 169, 3) := by decide +kernel
theorem dX12_forge_15 : decode cX12_forge 15 = .ok (.ifCond .eq 16, 3) := by decide +kernel
theorem dX12_forge_18 : decode cX12_forge 18 = .ok (.aload_n 0, 1) := by decide +kernel
theorem dX12_forge_19 : decode cX12_forge 19 = .ok (.getfield 106, 3) := by decide +kernel
theorem dX12_forge_22 : decode cX12_forge 22 = .ok (.iload_n 1, 1) := by decide +kernel
theorem dX12_forge_23 : decode cX12_forge 23 = .ok (.iaload, 1) := by decide +kernel
theorem dX12_forge_24 : decode cX12_forge 24 = .ok (.iload_n 2, 1) := by decide +kernel
theorem dX12_forge_25 : decode cX12_forge 25 = .ok (.iadd, 1) := by decide +kernel
theorem dX12_forge_26 : decode cX12_forge 26 = .ok (.bipush 9, 2) := by decide +kernel
theorem dX12_forge_28 : decode cX12_forge 28 = .ok (.if_icmp .le 5, 3) := by decide +kernel
theorem dX12_forge_31 : decode cX12_forge 31 = .ok (.iconst (-1), 1) := by decide +kernel
theorem dX12_forge_32 : decode cX12_forge 32 = .ok (.ireturn, 1) := by decide +kernel
theorem dX12_forge_33 : decode cX12_forge 33 = .ok (.iconst 0, 1) := by decide +kernel
theorem dX12_forge_34 : decode cX12_forge 34 = .ok (.istore_n 3, 1) := by decide +kernel
theorem dX12_forge_35 : decode cX12_forge 35 = .ok (.iload_n 3, 1) := by decide +kernel
theorem dX12_forge_36 : decode cX12_forge 36 = .ok (.iload_n 2, 1) := by decide +kernel
theorem dX12_forge_37 : decode cX12_forge 37 = .ok (.if_icmp .ge 57, 3) := by decide +kernel
theorem dX12_forge_40 : decode cX12_forge 40 = .ok (.aload_n 0, 1) := by decide +kernel
theorem dX12_forge_41 : decode cX12_forge 41 = .ok (.getfield 97, 3) := by decide +kernel
theorem dX12_forge_44 : decode cX12_forge 44 = .ok (.iload_n 1, 1) := by decide +kernel
theorem dX12_forge_45 : decode cX12_forge 45 = .ok (.ldc2_w 270, 3) := by decide +kernel
theorem dX12_forge_48 : decode cX12_forge 48 = .ok (.aload_n 0, 1) := by decide +kernel
theorem dX12_forge_49 : decode cX12_forge 49 = .ok (.getfield 97, 3) := by decide +kernel
theorem dX12_forge_52 : decode cX12_forge 52 = .ok (.iload_n 1, 1) := by decide +kernel
theorem dX12_forge_53 : decode cX12_forge 53 = .ok (.iaload, 1) := by decide +kernel
theorem dX12_forge_54 : decode cX12_forge 54 = .ok (.i2l, 1) := by decide +kernel
theorem dX12_forge_55 : decode cX12_forge 55 = .ok (.lmul, 1) := by decide +kernel
theorem dX12_forge_56 : decode cX12_forge 56 = .ok (.ldc2_w 272, 3) := by decide +kernel
theorem dX12_forge_59 : decode cX12_forge 59 = .ok (.ldiv, 1) := by decide +kernel
theorem dX12_forge_60 : decode cX12_forge 60 = .ok (.l2i, 1) := by decide +kernel
theorem dX12_forge_61 : decode cX12_forge 61 = .ok (.iastore, 1) := by decide +kernel
theorem dX12_forge_62 : decode cX12_forge 62 = .ok (.aload_n 0, 1) := by decide +kernel
theorem dX12_forge_63 : decode cX12_forge 63 = .ok (.getfield 100, 3) := by decide +kernel
theorem dX12_forge_66 : decode cX12_forge 66 = .ok (.iload_n 1, 1) := by decide +kernel
theorem dX12_forge_67 : decode cX12_forge 67 = .ok (.ldc2_w 274, 3) := by decide +kernel
theorem dX12_forge_70 : decode cX12_forge 70 = .ok (.aload_n 0, 1) := by decide +kernel
theorem dX12_forge_71 : decode cX12_forge 71 = .ok (.getfield 100, 3) := by decide +kernel
theorem dX12_forge_74 : decode cX12_forge 74 = .ok (.iload_n 1, 1) := by decide +kernel
theorem dX12_forge_75 : decode cX12_forge 75 = .ok (.iaload, 1) := by decide +kernel
theorem dX12_forge_76 : decode cX12_forge 76 = .ok (.i2l, 1) := by decide +kernel
theorem dX12_forge_77 : decode cX12_forge 77 = .ok (.lmul, 1) := by decide +kernel
theorem dX12_forge_78 : decode cX12_forge 78 = .ok (.ldc2_w 274, 3) := by decide +kernel
theorem dX12_forge_81 : decode cX12_forge 81 = .ok (.ladd, 1) := by decide +kernel
theorem dX12_forge_82 : decode cX12_forge 82 = .ok (.ldc2_w 272, 3) := by decide +kernel
theorem dX12_forge_85 : decode cX12_forge 85 = .ok (.ldiv, 1) := by decide +kernel
theorem dX12_forge_86 : decode cX12_forge 86 = .ok (.l2i, 1) := by decide +kernel
theorem dX12_forge_87 : decode cX12_forge 87 = .ok (.iastore, 1) := by decide +kernel
theorem dX12_forge_88 : decode cX12_forge 88 = .ok (.iinc 3 1, 3) := by decide +kernel
theorem dX12_forge_91 : decode cX12_forge 91 = .ok (.goto (-56), 3) := by decide +kernel
theorem dX12_forge_94 : decode cX12_forge 94 = .ok (.aload_n 0, 1) := by decide +kernel
theorem dX12_forge_95 : decode cX12_forge 95 = .ok (.getfield 106, 3) := by decide +kernel
theorem dX12_forge_98 : decode cX12_forge 98 = .ok (.iload_n 1, 1) := by decide +kernel
theorem dX12_forge_99 : decode cX12_forge 99 = .ok (.dup2, 1) := by decide +kernel
theorem dX12_forge_100 : decode cX12_forge 100 = .ok (.iaload, 1) := by decide +kernel
theorem dX12_forge_101 : decode cX12_forge 101 = .ok (.iload_n 2, 1) := by decide +kernel
theorem dX12_forge_102 : decode cX12_forge 102 = .ok (.iadd, 1) := by decide +kernel
theorem dX12_forge_103 : decode cX12_forge 103 = .ok (.iastore, 1) := by decide +kernel
theorem dX12_forge_104 : decode cX12_forge 104 = .ok (.aload_n 0, 1) := by decide +kernel
theorem dX12_forge_105 : decode cX12_forge 105 = .ok (.iload_n 1, 1) := by decide +kernel
theorem dX12_forge_106 : decode cX12_forge 106 = .ok (.invokevirtual 276, 3) := by decide +kernel
theorem dX12_forge_109 : decode cX12_forge 109 = .ok (.ireturn, 1) := by decide +kernel
theorem dX12_bar_0 : decode cX12_bar 0 = .ok (.aload_n 0, 1) := by decide +kernel
theorem dX12_bar_1 : decode cX12_bar 1 = .ok (.iload_n 1, 1) := by decide +kernel
theorem dX12_bar_2 : decode cX12_bar 2 = .ok (.invokevirtual 267, 3) := by decide +kernel
theorem dX12_bar_5 : decode cX12_bar 5 = .ok (.ifCond .ne 5, 3) := by decide +kernel
theorem dX12_bar_8 : decode cX12_bar 8 = .ok (.iconst (-1), 1) := by decide +kernel
theorem dX12_bar_9 : decode cX12_bar 9 = .ok (.ireturn, 1) := by decide +kernel
theorem dX12_bar_10 : decode cX12_bar 10 = .ok (.iconst 0, 1) := by decide +kernel
theorem dX12_bar_11 : decode cX12_bar 11 = .ok (.istore_n 3, 1) := by decide +kernel
theorem dX12_bar_12 : decode cX12_bar 12 = .ok (.iconst 0, 1) := by decide +kernel
theorem dX12_bar_13 : decode cX12_bar 13 = .ok (.istore 4, 2) := by decide +kernel
theorem dX12_bar_15 : decode cX12_bar 15 = .ok (.iconst 0, 1) := by decide +kernel
theorem dX12_bar_16 : decode cX12_bar 16 = .ok (.istore 5, 2) := by decide +kernel
theorem dX12_bar_18 : decode cX12_bar 18 = .ok (.iload 5, 2) := by decide +kernel
theorem dX12_bar_20 : decode cX12_bar 20 = .ok (.bipush 12, 2) := by decide +kernel
theorem dX12_bar_22 : decode cX12_bar 22 = .ok (.if_icmp .ge 24, 3) := by decide +kernel
theorem dX12_bar_25 : decode cX12_bar 25 = .ok (.iload_n 3, 1) := by decide +kernel
theorem dX12_bar_26 : decode cX12_bar 26 = .ok (.aload_n 0, 1) := by decide +kernel
theorem dX12_bar_27 : decode cX12_bar 27 = .ok (.getfield 91, 3) := by decide +kernel
theorem dX12_bar_30 : decode cX12_bar 30 = .ok (.bipush 12, 2) := by decide +kernel
theorem dX12_bar_32 : decode cX12_bar 32 = .ok (.iload_n 1, 1) := by decide +kernel
theorem dX12_bar_33 : decode cX12_bar 33 = .ok (.imul, 1) := by decide +kernel
theorem dX12_bar_34 : decode cX12_bar 34 = .ok (.iload 5, 2) := by decide +kernel
theorem dX12_bar_36 : decode cX12_bar 36 = .ok (.iadd, 1) := by decide +kernel
theorem dX12_bar_37 : decode cX12_bar 37 = .ok (.iaload, 1) := by decide +kernel
theorem dX12_bar_38 : decode cX12_bar 38 = .ok (.iadd, 1) := by decide +kernel
theorem dX12_bar_39 : decode cX12_bar 39 = .ok (.istore_n 3, 1) := by decide +kernel
theorem dX12_bar_40 : decode cX12_bar 40 = .ok (.iinc 5 1, 3) := by decide +kernel
theorem dX12_bar_43 : decode cX12_bar 43 = .ok (.goto (-25), 3) := by decide +kernel
theorem dX12_bar_46 : decode cX12_bar 46 = .ok (.iconst 0, 1) := by decide +kernel
theorem dX12_bar_47 : decode cX12_bar 47 = .ok (.istore 5, 2) := by decide +kernel
theorem dX12_bar_49 : decode cX12_bar 49 = .ok (.iload 5, 2) := by decide +kernel
theorem dX12_bar_51 : decode cX12_bar 51 = .ok (.bipush 8, 2) := by decide +kernel
theorem dX12_bar_53 : decode cX12_bar 53 = .ok (.if_icmp .ge 26, 3) := by decide +kernel
theorem dX12_bar_56 : decode cX12_bar 56 = .ok (.iload 4, 2) := by decide +kernel
theorem dX12_bar_58 : decode cX12_bar 58 = .ok (.aload_n 0, 1) := by decide +kernel
theorem dX12_bar_59 : decode cX12_bar 59 = .ok (.getfield 94, 3) := by decide +kernel
theorem dX12_bar_62 : decode cX12_bar 62 = .ok (.bipush 8, 2) := by decide +kernel
theorem dX12_bar_64 : decode cX12_bar 64 = .ok (.iload_n 1, 1) := by decide +kernel
theorem dX12_bar_65 : decode cX12_bar 65 = .ok (.imul, 1) := by decide +kernel
theorem dX12_bar_66 : decode cX12_bar 66 = .ok (.iload 5, 2) := by decide +kernel
theorem dX12_bar_68 : decode cX12_bar 68 = .ok (.iadd, 1) := by decide +kernel
theorem dX12_bar_69 : decode cX12_bar 69 = .ok (.iaload, 1) := by decide +kernel
theorem dX12_bar_70 : decode cX12_bar 70 = .ok (.iadd, 1) := by decide +kernel
theorem dX12_bar_71 : decode cX12_bar 71 = .ok (.istore 4, 2) := by decide +kernel
theorem dX12_bar_73 : decode cX12_bar 73 = .ok (.iinc 5 1, 3) := by decide +kernel
theorem dX12_bar_76 : decode cX12_bar 76 = .ok (.goto (-27), 3) := by decide +kernel
theorem dX12_bar_79 : decode cX12_bar 79 = .ok (.iload_n 2, 1) := by decide +kernel
theorem dX12_bar_80 : decode cX12_bar 80 = .ok (.tableswitch 83 0 6 #[44, 51, 58, 64, 71, 78, 80], 44) := by decide +kernel
theorem dX12_bar_124 : decode cX12_bar 124 = .ok (.aload_n 0, 1) := by decide +kernel
theorem dX12_bar_125 : decode cX12_bar 125 = .ok (.getfield 97, 3) := by decide +kernel
theorem dX12_bar_128 : decode cX12_bar 128 = .ok (.iload_n 1, 1) := by decide +kernel
theorem dX12_bar_129 : decode cX12_bar 129 = .ok (.iaload, 1) := by decide +kernel
theorem dX12_bar_130 : decode cX12_bar 130 = .ok (.ireturn, 1) := by decide +kernel
theorem dX12_bar_131 : decode cX12_bar 131 = .ok (.aload_n 0, 1) := by decide +kernel
theorem dX12_bar_132 : decode cX12_bar 132 = .ok (.getfield 100, 3) := by decide +kernel
theorem dX12_bar_135 : decode cX12_bar 135 = .ok (.iload_n 1, 1) := by decide +kernel
theorem dX12_bar_136 : decode cX12_bar 136 = .ok (.iaload, 1) := by decide +kernel
theorem dX12_bar_137 : decode cX12_bar 137 = .ok (.ireturn, 1) := by decide +kernel
theorem dX12_bar_138 : decode cX12_bar 138 = .ok (.aload_n 0, 1) := by decide +kernel
theorem dX12_bar_139 : decode cX12_bar 139 = .ok (.iload_n 1, 1) := by decide +kernel
theorem dX12_bar_140 : decode cX12_bar 140 = .ok (.invokevirtual 276, 3) := by decide +kernel
theorem dX12_bar_143 : decode cX12_bar 143 = .ok (.ireturn, 1) := by decide +kernel
theorem dX12_bar_144 : decode cX12_bar 144 = .ok (.aload_n 0, 1) := by decide +kernel
theorem dX12_bar_145 : decode cX12_bar 145 = .ok (.getfield 106, 3) := by decide +kernel
theorem dX12_bar_148 : decode cX12_bar 148 = .ok (.iload_n 1, 1) := by decide +kernel
theorem dX12_bar_149 : decode cX12_bar 149 = .ok (.iaload, 1) := by decide +kernel
theorem dX12_bar_150 : decode cX12_bar 150 = .ok (.ireturn, 1) := by decide +kernel
theorem dX12_bar_151 : decode cX12_bar 151 = .ok (.aload_n 0, 1) := by decide +kernel
theorem dX12_bar_152 : decode cX12_bar 152 = .ok (.getfield 109, 3) := by decide +kernel
theorem dX12_bar_155 : decode cX12_bar 155 = .ok (.iload_n 1, 1) := by decide +kernel
theorem dX12_bar_156 : decode cX12_bar 156 = .ok (.iaload, 1) := by decide +kernel
theorem dX12_bar_157 : decode cX12_bar 157 = .ok (.ireturn, 1) := by decide +kernel
theorem dX12_bar_158 : decode cX12_bar 158 = .ok (.iload_n 3, 1) := by decide +kernel
theorem dX12_bar_159 : decode cX12_bar 159 = .ok (.ireturn, 1) := by decide +kernel
theorem dX12_bar_160 : decode cX12_bar 160 = .ok (.iload 4, 2) := by decide +kernel
theorem dX12_bar_162 : decode cX12_bar 162 = .ok (.ireturn, 1) := by decide +kernel
theorem dX12_bar_163 : decode cX12_bar 163 = .ok (.iconst (-1), 1) := by decide +kernel
theorem dX12_bar_164 : decode cX12_bar 164 = .ok (.ireturn, 1) := by decide +kernel
theorem dX12_part_0 : decode cX12_part 0 = .ok (.aload_n 0, 1) := by decide +kernel
theorem dX12_part_1 : decode cX12_part 1 = .ok (.iload_n 1, 1) := by decide +kernel
theorem dX12_part_2 : decode cX12_part 2 = .ok (.invokevirtual 267, 3) := by decide +kernel
theorem dX12_part_5 : decode cX12_part 5 = .ok (.ifCond .eq 25, 3) := by decide +kernel
theorem dX12_part_8 : decode cX12_part 8 = .ok (.aload_n 0, 1) := by decide +kernel
theorem dX12_part_9 : decode cX12_part 9 = .ok (.iload_n 2, 1) := by decide +kernel
theorem dX12_part_10 : decode cX12_part 10 = .ok (.invokevirtual 178, 3) := by decide +kernel
theorem dX12_part_13 : decode cX12_part 13 = .ok (.ifCond .eq 17, 3) := by decide +kernel
theorem dX12_part_16 : decode cX12_part 16 = .ok (.aload_n 0, 1) := by decide +kernel
theorem dX12_part_17 : decode cX12_part 17 = .ok (.getfield 91, 3) := by decide +kernel
theorem dX12_part_20 : decode cX12_part 20 = .ok (.bipush 12, 2) := by decide +kernel
theorem dX12_part_22 : decode cX12_part 22 = .ok (.iload_n 1, 1) := by decide +kernel
theorem dX12_part_23 : decode cX12_part 23 = .ok (.imul, 1) := by decide +kernel
theorem dX12_part_24 : decode cX12_part 24 = .ok (.iload_n 2, 1) := by decide +kernel
theorem dX12_part_25 : decode cX12_part 25 = .ok (.iadd, 1) := by decide +kernel
theorem dX12_part_26 : decode cX12_part 26 = .ok (.iaload, 1) := by decide +kernel
theorem dX12_part_27 : decode cX12_part 27 = .ok (.goto 4, 3) := by decide +kernel
theorem dX12_part_30 : decode cX12_part 30 = .ok (.iconst 0, 1) := by decide +kernel
theorem dX12_part_31 : decode cX12_part 31 = .ok (.ireturn, 1) := by decide +kernel
theorem dX12_burnt_0 : decode cX12_burnt 0 = .ok (.aload_n 0, 1) := by decide +kernel
theorem dX12_burnt_1 : decode cX12_burnt 1 = .ok (.iload_n 1, 1) := by decide +kernel
theorem dX12_burnt_2 : decode cX12_burnt 2 = .ok (.invokevirtual 267, 3) := by decide +kernel
theorem dX12_burnt_5 : decode cX12_burnt 5 = .ok (.ifCond .eq 27, 3) := by decide +kernel
theorem dX12_burnt_8 : decode cX12_burnt 8 = .ok (.iload_n 2, 1) := by decide +kernel
theorem dX12_burnt_9 : decode cX12_burnt 9 = .ok (.iconst 0, 1) := by decide +kernel
theorem dX12_burnt_10 : decode cX12_burnt 10 = .ok (.bipush 7, 2) := by decide +kernel
theorem dX12_burnt_12 : decode cX12_burnt 12 = .ok (.invokestatic 169, 3) := by decide +kernel
theorem dX12_burnt_15 : decode cX12_burnt 15 = .ok (.ifCond .eq 17, 3) := by decide +kernel
theorem dX12_burnt_18 : decode cX12_burnt 18 = .ok (.aload_n 0, 1) := by decide +kernel
theorem dX12_burnt_19 : decode cX12_burnt 19 = .ok (.getfield 94, 3) := by decide +kernel
theorem dX12_burnt_22 : decode cX12_burnt 22 = .ok (.bipush 8, 2) := by decide +kernel
theorem dX12_burnt_24 : decode cX12_burnt 24 = .ok (.iload_n 1, 1) := by decide +kernel
theorem dX12_burnt_25 : decode cX12_burnt 25 = .ok (.imul, 1) := by decide +kernel
theorem dX12_burnt_26 : decode cX12_burnt 26 = .ok (.iload_n 2, 1) := by decide +kernel
theorem dX12_burnt_27 : decode cX12_burnt 27 = .ok (.iadd, 1) := by decide +kernel
theorem dX12_burnt_28 : decode cX12_burnt 28 = .ok (.iaload, 1) := by decide +kernel
theorem dX12_burnt_29 : decode cX12_burnt 29 = .ok (.goto 4, 3) := by decide +kernel
theorem dX12_burnt_32 : decode cX12_burnt 32 = .ok (.iconst 0, 1) := by decide +kernel
theorem dX12_burnt_33 : decode cX12_burnt 33 = .ok (.ireturn, 1) := by decide +kernel
theorem dX12_right_0 : decode cX12_right 0 = .ok (.aload_n 0, 1) := by decide +kernel
theorem dX12_right_1 : decode cX12_right 1 = .ok (.iload_n 1, 1) := by decide +kernel
theorem dX12_right_2 : decode cX12_right 2 = .ok (.invokevirtual 178, 3) := by decide +kernel
theorem dX12_right_5 : decode cX12_right 5 = .ok (.ifCond .eq 44, 3) := by decide +kernel
theorem dX12_right_8 : decode cX12_right 8 = .ok (.iload_n 2, 1) := by decide +kernel
theorem dX12_right_9 : decode cX12_right 9 = .ok (.iconst 0, 1) := by decide +kernel
theorem dX12_right_10 : decode cX12_right 10 = .ok (.bipush 7, 2) := by decide +kernel
theorem dX12_right_12 : decode cX12_right 12 = .ok (.invokestatic 169, 3) := by decide +kernel
theorem dX12_right_15 : decode cX12_right 15 = .ok (.ifCond .eq 34, 3) := by decide +kernel
theorem dX12_right_18 : decode cX12_right 18 = .ok (.iload_n 3, 1) := by decide +kernel
theorem dX12_right_19 : decode cX12_right 19 = .ok (.iconst 0, 1) := by decide +kernel
theorem dX12_right_20 : decode cX12_right 20 = .ok (.bipush 100, 2) := by decide +kernel
theorem dX12_right_22 : decode cX12_right 22 = .ok (.invokestatic 169, 3) := by decide +kernel
theorem dX12_right_25 : decode cX12_right 25 = .ok (.ifCond .eq 24, 3) := by decide +kernel
theorem dX12_right_28 : decode cX12_right 28 = .ok (.iload 4, 2) := by decide +kernel
theorem dX12_right_30 : decode cX12_right 30 = .ok (.iconst 0, 1) := by decide +kernel
theorem dX12_right_31 : decode cX12_right 31 = .ok (.sipush 200, 3) := by decide +kernel
theorem dX12_right_34 : decode cX12_right 34 = .ok (.invokestatic 169, 3) := by decide +kernel
theorem dX12_right_37 : decode cX12_right 37 = .ok (.ifCond .eq 12, 3) := by decide +kernel
theorem dX12_right_40 : decode cX12_right 40 = .ok (.aload_n 0, 1) := by decide +kernel
theorem dX12_right_41 : decode cX12_right 41 = .ok (.getfield 280, 3) := by decide +kernel
theorem dX12_right_44 : decode cX12_right 44 = .ok (.bipush 100, 2) := by decide +kernel
theorem dX12_right_46 : decode cX12_right 46 = .ok (.if_icmp .ne 5, 3) := by decide +kernel
theorem dX12_right_49 : decode cX12_right 49 = .ok (.iconst 0, 1) := by decide +kernel
theorem dX12_right_50 : decode cX12_right 50 = .ok (.ireturn, 1) := by decide +kernel
theorem dX12_right_51 : decode cX12_right 51 = .ok (.aload_n 0, 1) := by decide +kernel
theorem dX12_right_52 : decode cX12_right 52 = .ok (.getfield 112, 3) := by decide +kernel
theorem dX12_right_55 : decode cX12_right 55 = .ok (.aload_n 0, 1) := by decide +kernel
theorem dX12_right_56 : decode cX12_right 56 = .ok (.getfield 280, 3) := by decide +kernel
theorem dX12_right_59 : decode cX12_right 59 = .ok (.iload_n 1, 1) := by decide +kernel
theorem dX12_right_60 : decode cX12_right 60 = .ok (.iastore, 1) := by decide +kernel
theorem dX12_right_61 : decode cX12_right 61 = .ok (.aload_n 0, 1) := by decide +kernel
theorem dX12_right_62 : decode cX12_right 62 = .ok (.getfield 115, 3) := by decide +kernel
theorem dX12_right_65 : decode cX12_right 65 = .ok (.aload_n 0, 1) := by decide +kernel
theorem dX12_right_66 : decode cX12_right 66 = .ok (.getfield 280, 3) := by decide +kernel
theorem dX12_right_69 : decode cX12_right 69 = .ok (.iload_n 2, 1) := by decide +kernel
theorem dX12_right_70 : decode cX12_right 70 = .ok (.iastore, 1) := by decide +kernel
theorem dX12_right_71 : decode cX12_right 71 = .ok (.aload_n 0, 1) := by decide +kernel
theorem dX12_right_72 : decode cX12_right 72 = .ok (.getfield 118, 3) := by decide +kernel
theorem dX12_right_75 : decode cX12_right 75 = .ok (.aload_n 0, 1) := by decide +kernel
theorem dX12_right_76 : decode cX12_right 76 = .ok (.getfield 280, 3) := by decide +kernel
theorem dX12_right_79 : decode cX12_right 79 = .ok (.iload_n 3, 1) := by decide +kernel
theorem dX12_right_80 : decode cX12_right 80 = .ok (.iastore, 1) := by decide +kernel
theorem dX12_right_81 : decode cX12_right 81 = .ok (.aload_n 0, 1) := by decide +kernel
theorem dX12_right_82 : decode cX12_right 82 = .ok (.getfield 121, 3) := by decide +kernel
theorem dX12_right_85 : decode cX12_right 85 = .ok (.aload_n 0, 1) := by decide +kernel
theorem dX12_right_86 : decode cX12_right 86 = .ok (.getfield 280, 3) := by decide +kernel
theorem dX12_right_89 : decode cX12_right 89 = .ok (.iload 4, 2) := by decide +kernel
theorem dX12_right_91 : decode cX12_right 91 = .ok (.iastore, 1) := by decide +kernel
theorem dX12_right_92 : decode cX12_right 92 = .ok (.aload_n 0, 1) := by decide +kernel
theorem dX12_right_93 : decode cX12_right 93 = .ok (.dup, 1) := by decide +kernel
theorem dX12_right_94 : decode cX12_right 94 = .ok (.getfield 280, 3) := by decide +kernel
theorem dX12_right_97 : decode cX12_right 97 = .ok (.iconst 1, 1) := by decide +kernel
theorem dX12_right_98 : decode cX12_right 98 = .ok (.iadd, 1) := by decide +kernel
theorem dX12_right_99 : decode cX12_right 99 = .ok (.putfield 280, 3) := by decide +kernel
theorem dX12_right_102 : decode cX12_right 102 = .ok (.iconst 1, 1) := by decide +kernel
theorem dX12_right_103 : decode cX12_right 103 = .ok (.ireturn, 1) := by decide +kernel
theorem dX12_inForce_0 : decode cX12_inForce 0 = .ok (.iconst 0, 1) := by decide +kernel
theorem dX12_inForce_1 : decode cX12_inForce 1 = .ok (.istore 4, 2) := by decide +kernel
theorem dX12_inForce_3 : decode cX12_inForce 3 = .ok (.iconst (-1), 1) := by decide +kernel
theorem dX12_inForce_4 : decode cX12_inForce 4 = .ok (.istore 5, 2) := by decide +kernel
theorem dX12_inForce_6 : decode cX12_inForce 6 = .ok (.iconst 0, 1) := by decide +kernel
theorem dX12_inForce_7 : decode cX12_inForce 7 = .ok (.istore 6, 2) := by decide +kernel
theorem dX12_inForce_9 : decode cX12_inForce 9 = .ok (.iload 6, 2) := by decide +kernel
theorem dX12_inForce_11 : decode cX12_inForce 11 = .ok (.aload_n 0, 1) := by decide +kernel
theorem dX12_inForce_12 : decode cX12_inForce 12 = .ok (.getfield 280, 3) := by decide +kernel
theorem dX12_inForce_15 : decode cX12_inForce 15 = .ok (.if_icmp .ge 72, 3) := by decide +kernel
theorem dX12_inForce_18 : decode cX12_inForce 18 = .ok (.aload_n 0, 1) := by decide +kernel
theorem dX12_inForce_19 : decode cX12_inForce 19 = .ok (.getfield 112, 3) := by decide +kernel
theorem dX12_inForce_22 : decode cX12_inForce 22 = .ok (.iload 6, 2) := by decide +kernel
theorem dX12_inForce_24 : decode cX12_inForce 24 = .ok (.iaload, 1) := by decide +kernel
theorem dX12_inForce_25 : decode cX12_inForce 25 = .ok (.iload_n 1, 1) := by decide +kernel
theorem dX12_inForce_26 : decode cX12_inForce 26 = .ok (.if_icmp .ne 55, 3) := by decide +kernel
theorem dX12_inForce_29 : decode cX12_inForce 29 = .ok (.aload_n 0, 1) := by decide +kernel
theorem dX12_inForce_30 : decode cX12_inForce 30 = .ok (.getfield 115, 3) := by decide +kernel
theorem dX12_inForce_33 : decode cX12_inForce 33 = .ok (.iload 6, 2) := by decide +kernel
theorem dX12_inForce_35 : decode cX12_inForce 35 = .ok (.iaload, 1) := by decide +kernel
theorem dX12_inForce_36 : decode cX12_inForce 36 = .ok (.iload_n 2, 1) := by decide +kernel
theorem dX12_inForce_37 : decode cX12_inForce 37 = .ok (.if_icmp .ne 44, 3) := by decide +kernel
theorem dX12_inForce_40 : decode cX12_inForce 40 = .ok (.aload_n 0, 1) := by decide +kernel
theorem dX12_inForce_41 : decode cX12_inForce 41 = .ok (.getfield 121, 3) := by decide +kernel
theorem dX12_inForce_44 : decode cX12_inForce 44 = .ok (.iload 6, 2) := by decide +kernel
theorem dX12_inForce_46 : decode cX12_inForce 46 = .ok (.iaload, 1) := by decide +kernel
theorem dX12_inForce_47 : decode cX12_inForce 47 = .ok (.iload_n 3, 1) := by decide +kernel
theorem dX12_inForce_48 : decode cX12_inForce 48 = .ok (.if_icmp .gt 33, 3) := by decide +kernel
theorem dX12_inForce_51 : decode cX12_inForce 51 = .ok (.aload_n 0, 1) := by decide +kernel
theorem dX12_inForce_52 : decode cX12_inForce 52 = .ok (.getfield 121, 3) := by decide +kernel
theorem dX12_inForce_55 : decode cX12_inForce 55 = .ok (.iload 6, 2) := by decide +kernel
theorem dX12_inForce_57 : decode cX12_inForce 57 = .ok (.iaload, 1) := by decide +kernel
theorem dX12_inForce_58 : decode cX12_inForce 58 = .ok (.iload 5, 2) := by decide +kernel
theorem dX12_inForce_60 : decode cX12_inForce 60 = .ok (.if_icmp .lt 21, 3) := by decide +kernel
theorem dX12_inForce_63 : decode cX12_inForce 63 = .ok (.aload_n 0, 1) := by decide +kernel
theorem dX12_inForce_64 : decode cX12_inForce 64 = .ok (.getfield 118, 3) := by decide +kernel
theorem dX12_inForce_67 : decode cX12_inForce 67 = .ok (.iload 6, 2) := by decide +kernel
theorem dX12_inForce_69 : decode cX12_inForce 69 = .ok (.iaload, 1) := by decide +kernel
theorem dX12_inForce_70 : decode cX12_inForce 70 = .ok (.istore 4, 2) := by decide +kernel
theorem dX12_inForce_72 : decode cX12_inForce 72 = .ok (.aload_n 0, 1) := by decide +kernel
theorem dX12_inForce_73 : decode cX12_inForce 73 = .ok (.getfield 121, 3) := by decide +kernel
theorem dX12_inForce_76 : decode cX12_inForce 76 = .ok (.iload 6, 2) := by decide +kernel
theorem dX12_inForce_78 : decode cX12_inForce 78 = .ok (.iaload, 1) := by decide +kernel
theorem dX12_inForce_79 : decode cX12_inForce 79 = .ok (.istore 5, 2) := by decide +kernel
theorem dX12_inForce_81 : decode cX12_inForce 81 = .ok (.iinc 6 1, 3) := by decide +kernel
theorem dX12_inForce_84 : decode cX12_inForce 84 = .ok (.goto (-75), 3) := by decide +kernel
theorem dX12_inForce_87 : decode cX12_inForce 87 = .ok (.iload 4, 2) := by decide +kernel
theorem dX12_inForce_89 : decode cX12_inForce 89 = .ok (.ireturn, 1) := by decide +kernel
theorem dX12_longer_0 : decode cX12_longer 0 = .ok (.iconst 2, 1) := by decide +kernel
theorem dX12_longer_1 : decode cX12_longer 1 = .ok (.aload_n 0, 1) := by decide +kernel
theorem dX12_longer_2 : decode cX12_longer 2 = .ok (.arraylength, 1) := by decide +kernel
theorem dX12_longer_3 : decode cX12_longer 3 = .ok (.imul, 1) := by decide +kernel
theorem dX12_longer_4 : decode cX12_longer 4 = .ok (.newarray .int, 2) := by decide +kernel
theorem dX12_longer_6 : decode cX12_longer 6 = .ok (.astore_n 1, 1) := by decide +kernel
theorem dX12_longer_7 : decode cX12_longer 7 = .ok (.iconst 0, 1) := by decide +kernel
theorem dX12_longer_8 : decode cX12_longer 8 = .ok (.istore_n 2, 1) := by decide +kernel
theorem dX12_longer_9 : decode cX12_longer 9 = .ok (.iload_n 2, 1) := by decide +kernel
theorem dX12_longer_10 : decode cX12_longer 10 = .ok (.aload_n 0, 1) := by decide +kernel
theorem dX12_longer_11 : decode cX12_longer 11 = .ok (.arraylength, 1) := by decide +kernel
theorem dX12_longer_12 : decode cX12_longer 12 = .ok (.if_icmp .ge 15, 3) := by decide +kernel
theorem dX12_longer_15 : decode cX12_longer 15 = .ok (.aload_n 1, 1) := by decide +kernel
theorem dX12_longer_16 : decode cX12_longer 16 = .ok (.iload_n 2, 1) := by decide +kernel
theorem dX12_longer_17 : decode cX12_longer 17 = .ok (.aload_n 0, 1) := by decide +kernel
theorem dX12_longer_18 : decode cX12_longer 18 = .ok (.iload_n 2, 1) := by decide +kernel
theorem dX12_longer_19 : decode cX12_longer 19 = .ok (.iaload, 1) := by decide +kernel
theorem dX12_longer_20 : decode cX12_longer 20 = .ok (.iastore, 1) := by decide +kernel
theorem dX12_longer_21 : decode cX12_longer 21 = .ok (.iinc 2 1, 3) := by decide +kernel
theorem dX12_longer_24 : decode cX12_longer 24 = .ok (.goto (-15), 3) := by decide +kernel
theorem dX12_longer_27 : decode cX12_longer 27 = .ok (.aload_n 1, 1) := by decide +kernel
theorem dX12_longer_28 : decode cX12_longer 28 = .ok (.areturn, 1) := by decide +kernel
theorem dX12_settle_0 : decode cX12_settle 0 = .ok (.lconst 0, 1) := by decide +kernel
theorem dX12_settle_1 : decode cX12_settle 1 = .ok (.lstore_n 2, 1) := by decide +kernel
theorem dX12_settle_2 : decode cX12_settle 2 = .ok (.iconst 0, 1) := by decide +kernel
theorem dX12_settle_3 : decode cX12_settle 3 = .ok (.istore 4, 2) := by decide +kernel
theorem dX12_settle_5 : decode cX12_settle 5 = .ok (.iload 4, 2) := by decide +kernel
theorem dX12_settle_7 : decode cX12_settle 7 = .ok (.bipush 8, 2) := by decide +kernel
theorem dX12_settle_9 : decode cX12_settle 9 = .ok (.if_icmp .ge 89, 3) := by decide +kernel
theorem dX12_settle_12 : decode cX12_settle 12 = .ok (.aload_n 0, 1) := by decide +kernel
theorem dX12_settle_13 : decode cX12_settle 13 = .ok (.getfield 34, 3) := by decide +kernel
theorem dX12_settle_16 : decode cX12_settle 16 = .ok (.iload 4, 2) := by decide +kernel
theorem dX12_settle_18 : decode cX12_settle 18 = .ok (.lconst 0, 1) := by decide +kernel
theorem dX12_settle_19 : decode cX12_settle 19 = .ok (.lastore, 1) := by decide +kernel
theorem dX12_settle_20 : decode cX12_settle 20 = .ok (.iconst 0, 1) := by decide +kernel
theorem dX12_settle_21 : decode cX12_settle 21 = .ok (.istore 5, 2) := by decide +kernel
theorem dX12_settle_23 : decode cX12_settle 23 = .ok (.iload 5, 2) := by decide +kernel
theorem dX12_settle_25 : decode cX12_settle 25 = .ok (.aload_n 0, 1) := by decide +kernel
theorem dX12_settle_26 : decode cX12_settle 26 = .ok (.getfield 166, 3) := by decide +kernel
theorem dX12_settle_29 : decode cX12_settle 29 = .ok (.if_icmp .ge 53, 3) := by decide +kernel
theorem dX12_settle_32 : decode cX12_settle 32 = .ok (.aload_n 0, 1) := by decide +kernel
theorem dX12_settle_33 : decode cX12_settle 33 = .ok (.getfield 34, 3) := by decide +kernel
theorem dX12_settle_36 : decode cX12_settle 36 = .ok (.iload 4, 2) := by decide +kernel
theorem dX12_settle_38 : decode cX12_settle 38 = .ok (.dup2, 1) := by decide +kernel
theorem dX12_settle_39 : decode cX12_settle 39 = .ok (.laload, 1) := by decide +kernel
theorem dX12_settle_40 : decode cX12_settle 40 = .ok (.aload_n 0, 1) := by decide +kernel
theorem dX12_settle_41 : decode cX12_settle 41 = .ok (.getfield 91, 3) := by decide +kernel
theorem dX12_settle_44 : decode cX12_settle 44 = .ok (.bipush 12, 2) := by decide +kernel
theorem dX12_settle_46 : decode cX12_settle 46 = .ok (.aload_n 0, 1) := by decide +kernel
theorem dX12_settle_47 : decode cX12_settle 47 = .ok (.getfield 124, 3) := by decide +kernel
theorem dX12_settle_50 : decode cX12_settle 50 = .ok (.iload_n 1, 1) := by decide +kernel
theorem dX12_settle_51 : decode cX12_settle 51 = .ok (.iaload, 1) := by decide +kernel
theorem dX12_settle_52 : decode cX12_settle 52 = .ok (.imul, 1) := by decide +kernel
theorem dX12_settle_53 : decode cX12_settle 53 = .ok (.iload 5, 2) := by decide +kernel
theorem dX12_settle_55 : decode cX12_settle 55 = .ok (.iadd, 1) := by decide +kernel
theorem dX12_settle_56 : decode cX12_settle 56 = .ok (.iaload, 1) := by decide +kernel
theorem dX12_settle_57 : decode cX12_settle 57 = .ok (.i2l, 1) := by decide +kernel
theorem dX12_settle_58 : decode cX12_settle 58 = .ok (.aload_n 0, 1) := by decide +kernel
theorem dX12_settle_59 : decode cX12_settle 59 = .ok (.iload 5, 2) := by decide +kernel
theorem dX12_settle_61 : decode cX12_settle 61 = .ok (.iload 4, 2) := by decide +kernel
theorem dX12_settle_63 : decode cX12_settle 63 = .ok (.aload_n 0, 1) := by decide +kernel
theorem dX12_settle_64 : decode cX12_settle 64 = .ok (.getfield 130, 3) := by decide +kernel
theorem dX12_settle_67 : decode cX12_settle 67 = .ok (.iload_n 1, 1) := by decide +kernel
theorem dX12_settle_68 : decode cX12_settle 68 = .ok (.iaload, 1) := by decide +kernel
theorem dX12_settle_69 : decode cX12_settle 69 = .ok (.invokevirtual 283, 3) := by decide +kernel
theorem dX12_settle_72 : decode cX12_settle 72 = .ok (.i2l, 1) := by decide +kernel
theorem dX12_settle_73 : decode cX12_settle 73 = .ok (.lmul, 1) := by decide +kernel
theorem dX12_settle_74 : decode cX12_settle 74 = .ok (.ladd, 1) := by decide +kernel
theorem dX12_settle_75 : decode cX12_settle 75 = .ok (.lastore, 1) := by decide +kernel
theorem dX12_settle_76 : decode cX12_settle 76 = .ok (.iinc 5 1, 3) := by decide +kernel
theorem dX12_settle_79 : decode cX12_settle 79 = .ok (.goto (-56), 3) := by decide +kernel
theorem dX12_settle_82 : decode cX12_settle 82 = .ok (.lload_n 2, 1) := by decide +kernel
theorem dX12_settle_83 : decode cX12_settle 83 = .ok (.aload_n 0, 1) := by decide +kernel
theorem dX12_settle_84 : decode cX12_settle 84 = .ok (.getfield 34, 3) := by decide +kernel
theorem dX12_settle_87 : decode cX12_settle 87 = .ok (.iload 4, 2) := by decide +kernel
theorem dX12_settle_89 : decode cX12_settle 89 = .ok (.laload, 1) := by decide +kernel
theorem dX12_settle_90 : decode cX12_settle 90 = .ok (.ladd, 1) := by decide +kernel
theorem dX12_settle_91 : decode cX12_settle 91 = .ok (.lstore_n 2, 1) := by decide +kernel
theorem dX12_settle_92 : decode cX12_settle 92 = .ok (.iinc 4 1, 3) := by decide +kernel
theorem dX12_settle_95 : decode cX12_settle 95 = .ok (.goto (-90), 3) := by decide +kernel
theorem dX12_settle_98 : decode cX12_settle 98 = .ok (.lload_n 2, 1) := by decide +kernel
theorem dX12_settle_99 : decode cX12_settle 99 = .ok (.lconst 0, 1) := by decide +kernel
theorem dX12_settle_100 : decode cX12_settle 100 = .ok (.lcmp, 1) := by decide +kernel
theorem dX12_settle_101 : decode cX12_settle 101 = .ok (.ifCond .ne 10, 3) := by decide +kernel
theorem dX12_settle_104 : decode cX12_settle 104 = .ok (.aload_n 0, 1) := by decide +kernel
theorem dX12_settle_105 : decode cX12_settle 105 = .ok (.getfield 34, 3) := by decide +kernel
theorem dX12_settle_108 : decode cX12_settle 108 = .ok (.iconst 0, 1) := by decide +kernel
theorem dX12_settle_109 : decode cX12_settle 109 = .ok (.lconst 1, 1) := by decide +kernel
theorem dX12_settle_110 : decode cX12_settle 110 = .ok (.lastore, 1) := by decide +kernel
theorem dX12_settle_111 : decode cX12_settle 111 = .ok (.aload_n 0, 1) := by decide +kernel
theorem dX12_settle_112 : decode cX12_settle 112 = .ok (.aload_n 0, 1) := by decide +kernel
theorem dX12_settle_113 : decode cX12_settle 113 = .ok (.getfield 127, 3) := by decide +kernel
theorem dX12_settle_116 : decode cX12_settle 116 = .ok (.iload_n 1, 1) := by decide +kernel
theorem dX12_settle_117 : decode cX12_settle 117 = .ok (.iaload, 1) := by decide +kernel
theorem dX12_settle_118 : decode cX12_settle 118 = .ok (.i2l, 1) := by decide +kernel
theorem dX12_settle_119 : decode cX12_settle 119 = .ok (.bipush 8, 2) := by decide +kernel
theorem dX12_settle_121 : decode cX12_settle 121 = .ok (.invokevirtual 173, 3) := by decide +kernel
theorem dX12_settle_124 : decode cX12_settle 124 = .ok (.iconst 0, 1) := by decide +kernel
theorem dX12_settle_125 : decode cX12_settle 125 = .ok (.istore 4, 2) := by decide +kernel
theorem dX12_settle_127 : decode cX12_settle 127 = .ok (.iconst 0, 1) := by decide +kernel
theorem dX12_settle_128 : decode cX12_settle 128 = .ok (.istore 5, 2) := by decide +kernel
theorem dX12_settle_130 : decode cX12_settle 130 = .ok (.iload 5, 2) := by decide +kernel
theorem dX12_settle_132 : decode cX12_settle 132 = .ok (.bipush 8, 2) := by decide +kernel
theorem dX12_settle_134 : decode cX12_settle 134 = .ok (.if_icmp .ge 184, 3) := by decide +kernel
theorem dX12_settle_137 : decode cX12_settle 137 = .ok (.aload_n 0, 1) := by decide +kernel
theorem dX12_settle_138 : decode cX12_settle 138 = .ok (.getfield 38, 3) := by decide +kernel
theorem dX12_settle_141 : decode cX12_settle 141 = .ok (.iload 5, 2) := by decide +kernel
theorem dX12_settle_143 : decode cX12_settle 143 = .ok (.iaload, 1) := by decide +kernel
theorem dX12_settle_144 : decode cX12_settle 144 = .ok (.aload_n 0, 1) := by decide +kernel
theorem dX12_settle_145 : decode cX12_settle 145 = .ok (.getfield 133, 3) := by decide +kernel
theorem dX12_settle_148 : decode cX12_settle 148 = .ok (.bipush 8, 2) := by decide +kernel
theorem dX12_settle_150 : decode cX12_settle 150 = .ok (.iload_n 1, 1) := by decide +kernel
theorem dX12_settle_151 : decode cX12_settle 151 = .ok (.imul, 1) := by decide +kernel
theorem dX12_settle_152 : decode cX12_settle 152 = .ok (.iload 5, 2) := by decide +kernel
theorem dX12_settle_154 : decode cX12_settle 154 = .ok (.iadd, 1) := by decide +kernel
theorem dX12_settle_155 : decode cX12_settle 155 = .ok (.iaload, 1) := by decide +kernel
theorem dX12_settle_156 : decode cX12_settle 156 = .ok (.isub, 1) := by decide +kernel
theorem dX12_settle_157 : decode cX12_settle 157 = .ok (.istore 6, 2) := by decide +kernel
theorem dX12_settle_159 : decode cX12_settle 159 = .ok (.iload 6, 2) := by decide +kernel
theorem dX12_settle_161 : decode cX12_settle 161 = .ok (.ifCond .ne 6, 3) := by decide +kernel
theorem dX12_settle_164 : decode cX12_settle 164 = .ok (.goto 148, 3) := by decide +kernel
theorem dX12_settle_167 : decode cX12_settle 167 = .ok (.aload_n 0, 1) := by decide +kernel
theorem dX12_settle_168 : decode cX12_settle 168 = .ok (.getfield 287, 3) := by decide +kernel
theorem dX12_settle_171 : decode cX12_settle 171 = .ok (.aload_n 0, 1) := by decide +kernel
theorem dX12_settle_172 : decode cX12_settle 172 = .ok (.getfield 139, 3) := by decide +kernel
theorem dX12_settle_175 : decode cX12_settle 175 = .ok (.arraylength, 1) := by decide +kernel
theorem dX12_settle_176 : decode cX12_settle 176 = .ok (.if_icmp .ne 47, 3) := by decide +kernel
theorem dX12_settle_179 : decode cX12_settle 179 = .ok (.aload_n 0, 1) := by decide +kernel
theorem dX12_settle_180 : decode cX12_settle 180 = .ok (.aload_n 0, 1) := by decide +kernel
theorem dX12_settle_181 : decode cX12_settle 181 = .ok (.getfield 139, 3) := by decide +kernel
theorem dX12_settle_184 : decode cX12_settle 184 = .ok (.invokestatic 290, 3) := by decide +kernel
theorem dX12_settle_187 : decode cX12_settle 187 = .ok (.putfield 139, 3) := by decide +kernel
theorem dX12_settle_190 : decode cX12_settle 190 = .ok (.aload_n 0, 1) := by decide +kernel
theorem dX12_settle_191 : decode cX12_settle 191 = .ok (.aload_n 0, 1) := by decide +kernel
theorem dX12_settle_192 : decode cX12_settle 192 = .ok (.getfield 142, 3) := by decide +kernel
theorem dX12_settle_195 : decode cX12_settle 195 = .ok (.invokestatic 290, 3) := by decide +kernel
theorem dX12_settle_198 : decode cX12_settle 198 = .ok (.putfield 142, 3) := by decide +kernel
theorem dX12_settle_201 : decode cX12_settle 201 = .ok (.aload_n 0, 1) := by decide +kernel
theorem dX12_settle_202 : decode cX12_settle 202 = .ok (.aload_n 0, 1) := by decide +kernel
theorem dX12_settle_203 : decode cX12_settle 203 = .ok (.getfield 145, 3) := by decide +kernel
theorem dX12_settle_206 : decode cX12_settle 206 = .ok (.invokestatic 290, 3) := by decide +kernel
theorem dX12_settle_209 : decode cX12_settle 209 = .ok (.putfield 145, 3) := by decide +kernel
theorem dX12_settle_212 : decode cX12_settle 212 = .ok (.aload_n 0, 1) := by decide +kernel
theorem dX12_settle_213 : decode cX12_settle 213 = .ok (.aload_n 0, 1) := by decide +kernel
theorem dX12_settle_214 : decode cX12_settle 214 = .ok (.getfield 148, 3) := by decide +kernel
theorem dX12_settle_217 : decode cX12_settle 217 = .ok (.invokestatic 290, 3) := by decide +kernel
theorem dX12_settle_220 : decode cX12_settle 220 = .ok (.putfield 148, 3) := by decide +kernel
theorem dX12_settle_223 : decode cX12_settle 223 = .ok (.aload_n 0, 1) := by decide +kernel
theorem dX12_settle_224 : decode cX12_settle 224 = .ok (.getfield 139, 3) := by decide +kernel
theorem dX12_settle_227 : decode cX12_settle 227 = .ok (.aload_n 0, 1) := by decide +kernel
theorem dX12_settle_228 : decode cX12_settle 228 = .ok (.getfield 287, 3) := by decide +kernel
theorem dX12_settle_231 : decode cX12_settle 231 = .ok (.aload_n 0, 1) := by decide +kernel
theorem dX12_settle_232 : decode cX12_settle 232 = .ok (.getfield 191, 3) := by decide +kernel
theorem dX12_settle_235 : decode cX12_settle 235 = .ok (.iastore, 1) := by decide +kernel
theorem dX12_settle_236 : decode cX12_settle 236 = .ok (.aload_n 0, 1) := by decide +kernel
theorem dX12_settle_237 : decode cX12_settle 237 = .ok (.getfield 142, 3) := by decide +kernel
theorem dX12_settle_240 : decode cX12_settle 240 = .ok (.aload_n 0, 1) := by decide +kernel
theorem dX12_settle_241 : decode cX12_settle 241 = .ok (.getfield 287, 3) := by decide +kernel
theorem dX12_settle_244 : decode cX12_settle 244 = .ok (.iload_n 1, 1) := by decide +kernel
theorem dX12_settle_245 : decode cX12_settle 245 = .ok (.iastore, 1) := by decide +kernel
theorem dX12_settle_246 : decode cX12_settle 246 = .ok (.aload_n 0, 1) := by decide +kernel
theorem dX12_settle_247 : decode cX12_settle 247 = .ok (.getfield 145, 3) := by decide +kernel
theorem dX12_settle_250 : decode cX12_settle 250 = .ok (.aload_n 0, 1) := by decide +kernel
theorem dX12_settle_251 : decode cX12_settle 251 = .ok (.getfield 287, 3) := by decide +kernel
theorem dX12_settle_254 : decode cX12_settle 254 = .ok (.iload 5, 2) := by decide +kernel
theorem dX12_settle_256 : decode cX12_settle 256 = .ok (.iastore, 1) := by decide +kernel
theorem dX12_settle_257 : decode cX12_settle 257 = .ok (.aload_n 0, 1) := by decide +kernel
theorem dX12_settle_258 : decode cX12_settle 258 = .ok (.getfield 148, 3) := by decide +kernel
theorem dX12_settle_261 : decode cX12_settle 261 = .ok (.aload_n 0, 1) := by decide +kernel
theorem dX12_settle_262 : decode cX12_settle 262 = .ok (.getfield 287, 3) := by decide +kernel
theorem dX12_settle_265 : decode cX12_settle 265 = .ok (.iload 6, 2) := by decide +kernel
theorem dX12_settle_267 : decode cX12_settle 267 = .ok (.iastore, 1) := by decide +kernel
theorem dX12_settle_268 : decode cX12_settle 268 = .ok (.aload_n 0, 1) := by decide +kernel
theorem dX12_settle_269 : decode cX12_settle 269 = .ok (.dup, 1) := by decide +kernel
theorem dX12_settle_270 : decode cX12_settle 270 = .ok (.getfield 287, 3) := by decide +kernel
theorem dX12_settle_273 : decode cX12_settle 273 = .ok (.iconst 1, 1) := by decide +kernel
theorem dX12_settle_274 : decode cX12_settle 274 = .ok (.iadd, 1) := by decide +kernel
theorem dX12_settle_275 : decode cX12_settle 275 = .ok (.putfield 287, 3) := by decide +kernel
theorem dX12_settle_278 : decode cX12_settle 278 = .ok (.aload_n 0, 1) := by decide +kernel
theorem dX12_settle_279 : decode cX12_settle 279 = .ok (.getfield 133, 3) := by decide +kernel
theorem dX12_settle_282 : decode cX12_settle 282 = .ok (.bipush 8, 2) := by decide +kernel
theorem dX12_settle_284 : decode cX12_settle 284 = .ok (.iload_n 1, 1) := by decide +kernel
theorem dX12_settle_285 : decode cX12_settle 285 = .ok (.imul, 1) := by decide +kernel
theorem dX12_settle_286 : decode cX12_settle 286 = .ok (.iload 5, 2) := by decide +kernel
theorem dX12_settle_288 : decode cX12_settle 288 = .ok (.iadd, 1) := by decide +kernel
theorem dX12_settle_289 : decode cX12_settle 289 = .ok (.aload_n 0, 1) := by decide +kernel
theorem dX12_settle_290 : decode cX12_settle 290 = .ok (.getfield 38, 3) := by decide +kernel
theorem dX12_settle_293 : decode cX12_settle 293 = .ok (.iload 5, 2) := by decide +kernel
theorem dX12_settle_295 : decode cX12_settle 295 = .ok (.iaload, 1) := by decide +kernel
theorem dX12_settle_296 : decode cX12_settle 296 = .ok (.iastore, 1) := by decide +kernel
theorem dX12_settle_297 : decode cX12_settle 297 = .ok (.aload_n 0, 1) := by decide +kernel
theorem dX12_settle_298 : decode cX12_settle 298 = .ok (.getfield 136, 3) := by decide +kernel
theorem dX12_settle_301 : decode cX12_settle 301 = .ok (.iload 5, 2) := by decide +kernel
theorem dX12_settle_303 : decode cX12_settle 303 = .ok (.dup2, 1) := by decide +kernel
theorem dX12_settle_304 : decode cX12_settle 304 = .ok (.iaload, 1) := by decide +kernel
theorem dX12_settle_305 : decode cX12_settle 305 = .ok (.iload 6, 2) := by decide +kernel
theorem dX12_settle_307 : decode cX12_settle 307 = .ok (.iadd, 1) := by decide +kernel
theorem dX12_settle_308 : decode cX12_settle 308 = .ok (.iastore, 1) := by decide +kernel
theorem dX12_settle_309 : decode cX12_settle 309 = .ok (.iinc 4 1, 3) := by decide +kernel
theorem dX12_settle_312 : decode cX12_settle 312 = .ok (.iinc 5 1, 3) := by decide +kernel
theorem dX12_settle_315 : decode cX12_settle 315 = .ok (.goto (-185), 3) := by decide +kernel
theorem dX12_settle_318 : decode cX12_settle 318 = .ok (.iload 4, 2) := by decide +kernel
theorem dX12_settle_320 : decode cX12_settle 320 = .ok (.ireturn, 1) := by decide +kernel
theorem dX12_pay_0 : decode cX12_pay 0 = .ok (.aload_n 0, 1) := by decide +kernel
theorem dX12_pay_1 : decode cX12_pay 1 = .ok (.iload_n 1, 1) := by decide +kernel
theorem dX12_pay_2 : decode cX12_pay 2 = .ok (.invokevirtual 267, 3) := by decide +kernel
theorem dX12_pay_5 : decode cX12_pay 5 = .ok (.ifCond .eq 22, 3) := by decide +kernel
theorem dX12_pay_8 : decode cX12_pay 8 = .ok (.iload_n 2, 1) := by decide +kernel
theorem dX12_pay_9 : decode cX12_pay 9 = .ok (.iconst 1, 1) := by decide +kernel
theorem dX12_pay_10 : decode cX12_pay 10 = .ok (.ldc 194, 2) := by decide +kernel
theorem dX12_pay_12 : decode cX12_pay 12 = .ok (.invokestatic 169, 3) := by decide +kernel
theorem dX12_pay_15 : decode cX12_pay 15 = .ok (.ifCond .eq 12, 3) := by decide +kernel
theorem dX12_pay_18 : decode cX12_pay 18 = .ok (.aload_n 0, 1) := by decide +kernel
theorem dX12_pay_19 : decode cX12_pay 19 = .ok (.getfield 294, 3) := by decide +kernel
theorem dX12_pay_22 : decode cX12_pay 22 = .ok (.bipush 60, 2) := by decide +kernel
theorem dX12_pay_24 : decode cX12_pay 24 = .ok (.if_icmp .ne 5, 3) := by decide +kernel
theorem dX12_pay_27 : decode cX12_pay 27 = .ok (.iconst (-1), 1) := by decide +kernel
theorem dX12_pay_28 : decode cX12_pay 28 = .ok (.ireturn, 1) := by decide +kernel
theorem dX12_pay_29 : decode cX12_pay 29 = .ok (.aload_n 0, 1) := by decide +kernel
theorem dX12_pay_30 : decode cX12_pay 30 = .ok (.getfield 124, 3) := by decide +kernel
theorem dX12_pay_33 : decode cX12_pay 33 = .ok (.aload_n 0, 1) := by decide +kernel
theorem dX12_pay_34 : decode cX12_pay 34 = .ok (.getfield 294, 3) := by decide +kernel
theorem dX12_pay_37 : decode cX12_pay 37 = .ok (.iload_n 1, 1) := by decide +kernel
theorem dX12_pay_38 : decode cX12_pay 38 = .ok (.iastore, 1) := by decide +kernel
theorem dX12_pay_39 : decode cX12_pay 39 = .ok (.aload_n 0, 1) := by decide +kernel
theorem dX12_pay_40 : decode cX12_pay 40 = .ok (.getfield 127, 3) := by decide +kernel
theorem dX12_pay_43 : decode cX12_pay 43 = .ok (.aload_n 0, 1) := by decide +kernel
theorem dX12_pay_44 : decode cX12_pay 44 = .ok (.getfield 294, 3) := by decide +kernel
theorem dX12_pay_47 : decode cX12_pay 47 = .ok (.iload_n 2, 1) := by decide +kernel
theorem dX12_pay_48 : decode cX12_pay 48 = .ok (.iastore, 1) := by decide +kernel
theorem dX12_pay_49 : decode cX12_pay 49 = .ok (.aload_n 0, 1) := by decide +kernel
theorem dX12_pay_50 : decode cX12_pay 50 = .ok (.getfield 130, 3) := by decide +kernel
theorem dX12_pay_53 : decode cX12_pay 53 = .ok (.aload_n 0, 1) := by decide +kernel
theorem dX12_pay_54 : decode cX12_pay 54 = .ok (.getfield 294, 3) := by decide +kernel
theorem dX12_pay_57 : decode cX12_pay 57 = .ok (.aload_n 0, 1) := by decide +kernel
theorem dX12_pay_58 : decode cX12_pay 58 = .ok (.getfield 191, 3) := by decide +kernel
theorem dX12_pay_61 : decode cX12_pay 61 = .ok (.iastore, 1) := by decide +kernel
theorem dX12_pay_62 : decode cX12_pay 62 = .ok (.aload_n 0, 1) := by decide +kernel
theorem dX12_pay_63 : decode cX12_pay 63 = .ok (.dup, 1) := by decide +kernel
theorem dX12_pay_64 : decode cX12_pay 64 = .ok (.getfield 294, 3) := by decide +kernel
theorem dX12_pay_67 : decode cX12_pay 67 = .ok (.iconst 1, 1) := by decide +kernel
theorem dX12_pay_68 : decode cX12_pay 68 = .ok (.iadd, 1) := by decide +kernel
theorem dX12_pay_69 : decode cX12_pay 69 = .ok (.putfield 294, 3) := by decide +kernel
theorem dX12_pay_72 : decode cX12_pay 72 = .ok (.aload_n 0, 1) := by decide +kernel
theorem dX12_pay_73 : decode cX12_pay 73 = .ok (.aload_n 0, 1) := by decide +kernel
theorem dX12_pay_74 : decode cX12_pay 74 = .ok (.getfield 294, 3) := by decide +kernel
theorem dX12_pay_77 : decode cX12_pay 77 = .ok (.iconst 1, 1) := by decide +kernel
theorem dX12_pay_78 : decode cX12_pay 78 = .ok (.isub, 1) := by decide +kernel
theorem dX12_pay_79 : decode cX12_pay 79 = .ok (.invokevirtual 297, 3) := by decide +kernel
theorem dX12_pay_82 : decode cX12_pay 82 = .ok (.pop, 1) := by decide +kernel
theorem dX12_pay_83 : decode cX12_pay 83 = .ok (.aload_n 0, 1) := by decide +kernel
theorem dX12_pay_84 : decode cX12_pay 84 = .ok (.getfield 294, 3) := by decide +kernel
theorem dX12_pay_87 : decode cX12_pay 87 = .ok (.iconst 1, 1) := by decide +kernel
theorem dX12_pay_88 : decode cX12_pay 88 = .ok (.isub, 1) := by decide +kernel
theorem dX12_pay_89 : decode cX12_pay 89 = .ok (.ireturn, 1) := by decide +kernel
theorem dX12_again_0 : decode cX12_again 0 = .ok (.iload_n 1, 1) := by decide +kernel
theorem dX12_again_1 : decode cX12_again 1 = .ok (.iconst 0, 1) := by decide +kernel
theorem dX12_again_2 : decode cX12_again 2 = .ok (.aload_n 0, 1) := by decide +kernel
theorem dX12_again_3 : decode cX12_again 3 = .ok (.getfield 294, 3) := by decide +kernel
theorem dX12_again_6 : decode cX12_again 6 = .ok (.iconst 1, 1) := by decide +kernel
theorem dX12_again_7 : decode cX12_again 7 = .ok (.isub, 1) := by decide +kernel
theorem dX12_again_8 : decode cX12_again 8 = .ok (.invokestatic 169, 3) := by decide +kernel
theorem dX12_again_11 : decode cX12_again 11 = .ok (.ifCond .eq 11, 3) := by decide +kernel
theorem dX12_again_14 : decode cX12_again 14 = .ok (.aload_n 0, 1) := by decide +kernel
theorem dX12_again_15 : decode cX12_again 15 = .ok (.iload_n 1, 1) := by decide +kernel
theorem dX12_again_16 : decode cX12_again 16 = .ok (.invokevirtual 297, 3) := by decide +kernel
theorem dX12_again_19 : decode cX12_again 19 = .ok (.goto 4, 3) := by decide +kernel
theorem dX12_again_22 : decode cX12_again 22 = .ok (.iconst (-1), 1) := by decide +kernel
theorem dX12_again_23 : decode cX12_again 23 = .ok (.ireturn, 1) := by decide +kernel
theorem dX12_line_0 : decode cX12_line 0 = .ok (.iload_n 1, 1) := by decide +kernel
theorem dX12_line_1 : decode cX12_line 1 = .ok (.iconst 0, 1) := by decide +kernel
theorem dX12_line_2 : decode cX12_line 2 = .ok (.aload_n 0, 1) := by decide +kernel
theorem dX12_line_3 : decode cX12_line 3 = .ok (.getfield 287, 3) := by decide +kernel
theorem dX12_line_6 : decode cX12_line 6 = .ok (.iconst 1, 1) := by decide +kernel
theorem dX12_line_7 : decode cX12_line 7 = .ok (.isub, 1) := by decide +kernel
theorem dX12_line_8 : decode cX12_line 8 = .ok (.invokestatic 169, 3) := by decide +kernel
theorem dX12_line_11 : decode cX12_line 11 = .ok (.ifCond .ne 5, 3) := by decide +kernel
theorem dX12_line_14 : decode cX12_line 14 = .ok (.iconst 0, 1) := by decide +kernel
theorem dX12_line_15 : decode cX12_line 15 = .ok (.ireturn, 1) := by decide +kernel
theorem dX12_line_16 : decode cX12_line 16 = .ok (.iload_n 2, 1) := by decide +kernel
theorem dX12_line_17 : decode cX12_line 17 = .ok (.ifCond .ne 12, 3) := by decide +kernel
theorem dX12_line_20 : decode cX12_line 20 = .ok (.aload_n 0, 1) := by decide +kernel
theorem dX12_line_21 : decode cX12_line 21 = .ok (.getfield 139, 3) := by decide +kernel
theorem dX12_line_24 : decode cX12_line 24 = .ok (.iload_n 1, 1) := by decide +kernel
theorem dX12_line_25 : decode cX12_line 25 = .ok (.iaload, 1) := by decide +kernel
theorem dX12_line_26 : decode cX12_line 26 = .ok (.goto 46, 3) := by decide +kernel
theorem dX12_line_29 : decode cX12_line 29 = .ok (.iload_n 2, 1) := by decide +kernel
theorem dX12_line_30 : decode cX12_line 30 = .ok (.iconst 1, 1) := by decide +kernel
theorem dX12_line_31 : decode cX12_line 31 = .ok (.if_icmp .ne 12, 3) := by decide +kernel
theorem dX12_line_34 : decode cX12_line 34 = .ok (.aload_n 0, 1) := by decide +kernel
theorem dX12_line_35 : decode cX12_line 35 = .ok (.getfield 142, 3) := by decide +kernel
theorem dX12_line_38 : decode cX12_line 38 = .ok (.iload_n 1, 1) := by decide +kernel
theorem dX12_line_39 : decode cX12_line 39 = .ok (.iaload, 1) := by decide +kernel
theorem dX12_line_40 : decode cX12_line 40 = .ok (.goto 32, 3) := by decide +kernel
theorem dX12_line_43 : decode cX12_line 43 = .ok (.iload_n 2, 1) := by decide +kernel
theorem dX12_line_44 : decode cX12_line 44 = .ok (.iconst 2, 1) := by decide +kernel
theorem dX12_line_45 : decode cX12_line 45 = .ok (.if_icmp .ne 12, 3) := by decide +kernel
theorem dX12_line_48 : decode cX12_line 48 = .ok (.aload_n 0, 1) := by decide +kernel
theorem dX12_line_49 : decode cX12_line 49 = .ok (.getfield 145, 3) := by decide +kernel
theorem dX12_line_52 : decode cX12_line 52 = .ok (.iload_n 1, 1) := by decide +kernel
theorem dX12_line_53 : decode cX12_line 53 = .ok (.iaload, 1) := by decide +kernel
theorem dX12_line_54 : decode cX12_line 54 = .ok (.goto 18, 3) := by decide +kernel
theorem dX12_line_57 : decode cX12_line 57 = .ok (.iload_n 2, 1) := by decide +kernel
theorem dX12_line_58 : decode cX12_line 58 = .ok (.iconst 3, 1) := by decide +kernel
theorem dX12_line_59 : decode cX12_line 59 = .ok (.if_icmp .ne 12, 3) := by decide +kernel
theorem dX12_line_62 : decode cX12_line 62 = .ok (.aload_n 0, 1) := by decide +kernel
theorem dX12_line_63 : decode cX12_line 63 = .ok (.getfield 148, 3) := by decide +kernel
theorem dX12_line_66 : decode cX12_line 66 = .ok (.iload_n 1, 1) := by decide +kernel
theorem dX12_line_67 : decode cX12_line 67 = .ok (.iaload, 1) := by decide +kernel
theorem dX12_line_68 : decode cX12_line 68 = .ok (.goto 4, 3) := by decide +kernel
theorem dX12_line_71 : decode cX12_line 71 = .ok (.iconst 0, 1) := by decide +kernel
theorem dX12_line_72 : decode cX12_line 72 = .ok (.ireturn, 1) := by decide +kernel
theorem dX12_coins_0 : decode cX12_coins 0 = .ok (.iload_n 1, 1) := by decide +kernel
theorem dX12_coins_1 : decode cX12_coins 1 = .ok (.iconst 0, 1) := by decide +kernel
theorem dX12_coins_2 : decode cX12_coins 2 = .ok (.bipush 7, 2) := by decide +kernel
theorem dX12_coins_4 : decode cX12_coins 4 = .ok (.invokestatic 169, 3) := by decide +kernel
theorem dX12_coins_7 : decode cX12_coins 7 = .ok (.ifCond .eq 12, 3) := by decide +kernel
theorem dX12_coins_10 : decode cX12_coins 10 = .ok (.aload_n 0, 1) := by decide +kernel
theorem dX12_coins_11 : decode cX12_coins 11 = .ok (.getfield 136, 3) := by decide +kernel
theorem dX12_coins_14 : decode cX12_coins 14 = .ok (.iload_n 1, 1) := by decide +kernel
theorem dX12_coins_15 : decode cX12_coins 15 = .ok (.iaload, 1) := by decide +kernel
theorem dX12_coins_16 : decode cX12_coins 16 = .ok (.goto 4, 3) := by decide +kernel
theorem dX12_coins_19 : decode cX12_coins 19 = .ok (.iconst 0, 1) := by decide +kernel
theorem dX12_coins_20 : decode cX12_coins 20 = .ok (.ireturn, 1) := by decide +kernel
theorem dX12_order_0 : decode cX12_order 0 = .ok (.aload_n 0, 1) := by decide +kernel
theorem dX12_order_1 : decode cX12_order 1 = .ok (.getfield 300, 3) := by decide +kernel
theorem dX12_order_4 : decode cX12_order 4 = .ok (.bipush 8, 2) := by decide +kernel
theorem dX12_order_6 : decode cX12_order 6 = .ok (.if_icmp .eq 22, 3) := by decide +kernel
theorem dX12_order_9 : decode cX12_order 9 = .ok (.iload_n 1, 1) := by decide +kernel
theorem dX12_order_10 : decode cX12_order 10 = .ok (.iconst 0, 1) := by decide +kernel
theorem dX12_order_11 : decode cX12_order 11 = .ok (.iconst 2, 1) := by decide +kernel
theorem dX12_order_12 : decode cX12_order 12 = .ok (.invokestatic 169, 3) := by decide +kernel
theorem dX12_order_15 : decode cX12_order 15 = .ok (.ifCond .eq 13, 3) := by decide +kernel
theorem dX12_order_18 : decode cX12_order 18 = .ok (.iload_n 2, 1) := by decide +kernel
theorem dX12_order_19 : decode cX12_order 19 = .ok (.iconst 0, 1) := by decide +kernel
theorem dX12_order_20 : decode cX12_order 20 = .ok (.ldc 177, 2) := by decide +kernel
theorem dX12_order_22 : decode cX12_order 22 = .ok (.invokestatic 169, 3) := by decide +kernel
theorem dX12_order_25 : decode cX12_order 25 = .ok (.ifCond .ne 5, 3) := by decide +kernel
theorem dX12_order_28 : decode cX12_order 28 = .ok (.iconst (-1), 1) := by decide +kernel
theorem dX12_order_29 : decode cX12_order 29 = .ok (.ireturn, 1) := by decide +kernel
theorem dX12_order_30 : decode cX12_order 30 = .ok (.aload_n 0, 1) := by decide +kernel
theorem dX12_order_31 : decode cX12_order 31 = .ok (.getfield 151, 3) := by decide +kernel
theorem dX12_order_34 : decode cX12_order 34 = .ok (.aload_n 0, 1) := by decide +kernel
theorem dX12_order_35 : decode cX12_order 35 = .ok (.getfield 300, 3) := by decide +kernel
theorem dX12_order_38 : decode cX12_order 38 = .ok (.iload_n 1, 1) := by decide +kernel
theorem dX12_order_39 : decode cX12_order 39 = .ok (.iastore, 1) := by decide +kernel
theorem dX12_order_40 : decode cX12_order 40 = .ok (.aload_n 0, 1) := by decide +kernel
theorem dX12_order_41 : decode cX12_order 41 = .ok (.getfield 154, 3) := by decide +kernel
theorem dX12_order_44 : decode cX12_order 44 = .ok (.aload_n 0, 1) := by decide +kernel
theorem dX12_order_45 : decode cX12_order 45 = .ok (.getfield 300, 3) := by decide +kernel
theorem dX12_order_48 : decode cX12_order 48 = .ok (.iload_n 2, 1) := by decide +kernel
theorem dX12_order_49 : decode cX12_order 49 = .ok (.iastore, 1) := by decide +kernel
theorem dX12_order_50 : decode cX12_order 50 = .ok (.aload_n 0, 1) := by decide +kernel
theorem dX12_order_51 : decode cX12_order 51 = .ok (.dup, 1) := by decide +kernel
theorem dX12_order_52 : decode cX12_order 52 = .ok (.getfield 300, 3) := by decide +kernel
theorem dX12_order_55 : decode cX12_order 55 = .ok (.iconst 1, 1) := by decide +kernel
theorem dX12_order_56 : decode cX12_order 56 = .ok (.iadd, 1) := by decide +kernel
theorem dX12_order_57 : decode cX12_order 57 = .ok (.putfield 300, 3) := by decide +kernel
theorem dX12_order_60 : decode cX12_order 60 = .ok (.aload_n 0, 1) := by decide +kernel
theorem dX12_order_61 : decode cX12_order 61 = .ok (.getfield 300, 3) := by decide +kernel
theorem dX12_order_64 : decode cX12_order 64 = .ok (.iconst 1, 1) := by decide +kernel
theorem dX12_order_65 : decode cX12_order 65 = .ok (.isub, 1) := by decide +kernel
theorem dX12_order_66 : decode cX12_order 66 = .ok (.ireturn, 1) := by decide +kernel
theorem dX12_clear_0 : decode cX12_clear 0 = .ok (.aload_n 0, 1) := by decide +kernel
theorem dX12_clear_1 : decode cX12_clear 1 = .ok (.iconst 0, 1) := by decide +kernel
theorem dX12_clear_2 : decode cX12_clear 2 = .ok (.putfield 300, 3) := by decide +kernel
theorem dX12_clear_5 : decode cX12_clear 5 = .ok (.return_, 1) := by decide +kernel
theorem dX12_fits_0 : decode cX12_fits 0 = .ok (.aload_n 0, 1) := by decide +kernel
theorem dX12_fits_1 : decode cX12_fits 1 = .ok (.iload_n 2, 1) := by decide +kernel
theorem dX12_fits_2 : decode cX12_fits 2 = .ok (.invokevirtual 276, 3) := by decide +kernel
theorem dX12_fits_5 : decode cX12_fits 5 = .ok (.aload_n 0, 1) := by decide +kernel
theorem dX12_fits_6 : decode cX12_fits 6 = .ok (.getfield 151, 3) := by decide +kernel
theorem dX12_fits_9 : decode cX12_fits 9 = .ok (.iload_n 1, 1) := by decide +kernel
theorem dX12_fits_10 : decode cX12_fits 10 = .ok (.iaload, 1) := by decide +kernel
theorem dX12_fits_11 : decode cX12_fits 11 = .ok (.if_icmp .gt 22, 3) := by decide +kernel
theorem dX12_fits_14 : decode cX12_fits 14 = .ok (.aload_n 0, 1) := by decide +kernel
theorem dX12_fits_15 : decode cX12_fits 15 = .ok (.getfield 97, 3) := by decide +kernel
theorem dX12_fits_18 : decode cX12_fits 18 = .ok (.iload_n 2, 1) := by decide +kernel
theorem dX12_fits_19 : decode cX12_fits 19 = .ok (.iaload, 1) := by decide +kernel
theorem dX12_fits_20 : decode cX12_fits 20 = .ok (.aload_n 0, 1) := by decide +kernel
theorem dX12_fits_21 : decode cX12_fits 21 = .ok (.getfield 154, 3) := by decide +kernel
theorem dX12_fits_24 : decode cX12_fits 24 = .ok (.iload_n 1, 1) := by decide +kernel
theorem dX12_fits_25 : decode cX12_fits 25 = .ok (.iaload, 1) := by decide +kernel
theorem dX12_fits_26 : decode cX12_fits 26 = .ok (.if_icmp .lt 7, 3) := by decide +kernel
theorem dX12_fits_29 : decode cX12_fits 29 = .ok (.iconst 1, 1) := by decide +kernel
theorem dX12_fits_30 : decode cX12_fits 30 = .ok (.goto 4, 3) := by decide +kernel
theorem dX12_fits_33 : decode cX12_fits 33 = .ok (.iconst 0, 1) := by decide +kernel
theorem dX12_fits_34 : decode cX12_fits 34 = .ok (.ireturn, 1) := by decide +kernel
theorem dX12_finds_0 : decode cX12_finds 0 = .ok (.iconst 0, 1) := by decide +kernel
theorem dX12_finds_1 : decode cX12_finds 1 = .ok (.istore_n 3, 1) := by decide +kernel
theorem dX12_finds_2 : decode cX12_finds 2 = .ok (.iload_n 3, 1) := by decide +kernel
theorem dX12_finds_3 : decode cX12_finds 3 = .ok (.aload_n 0, 1) := by decide +kernel
theorem dX12_finds_4 : decode cX12_finds 4 = .ok (.getfield 257, 3) := by decide +kernel
theorem dX12_finds_7 : decode cX12_finds 7 = .ok (.if_icmp .ge 76, 3) := by decide +kernel
theorem dX12_finds_10 : decode cX12_finds 10 = .ok (.aload_n 0, 1) := by decide +kernel
theorem dX12_finds_11 : decode cX12_finds 11 = .ok (.getfield 163, 3) := by decide +kernel
theorem dX12_finds_14 : decode cX12_finds 14 = .ok (.iload_n 3, 1) := by decide +kernel
theorem dX12_finds_15 : decode cX12_finds 15 = .ok (.baload, 1) := by decide +kernel
theorem dX12_finds_16 : decode cX12_finds 16 = .ok (.ifCond .ne 61, 3) := by decide +kernel
theorem dX12_finds_19 : decode cX12_finds 19 = .ok (.aload_n 0, 1) := by decide +kernel
theorem dX12_finds_20 : decode cX12_finds 20 = .ok (.iload_n 1, 1) := by decide +kernel
theorem dX12_finds_21 : decode cX12_finds 21 = .ok (.iload_n 3, 1) := by decide +kernel
theorem dX12_finds_22 : decode cX12_finds 22 = .ok (.invokevirtual 303, 3) := by decide +kernel
theorem dX12_finds_25 : decode cX12_finds 25 = .ok (.ifCond .ne 6, 3) := by decide +kernel
theorem dX12_finds_28 : decode cX12_finds 28 = .ok (.goto 49, 3) := by decide +kernel
theorem dX12_finds_31 : decode cX12_finds 31 = .ok (.aload_n 0, 1) := by decide +kernel
theorem dX12_finds_32 : decode cX12_finds 32 = .ok (.getfield 163, 3) := by decide +kernel
theorem dX12_finds_35 : decode cX12_finds 35 = .ok (.iload_n 3, 1) := by decide +kernel
theorem dX12_finds_36 : decode cX12_finds 36 = .ok (.iconst 1, 1) := by decide +kernel
theorem dX12_finds_37 : decode cX12_finds 37 = .ok (.bastore, 1) := by decide +kernel
theorem dX12_finds_38 : decode cX12_finds 38 = .ok (.aload_n 0, 1) := by decide +kernel
theorem dX12_finds_39 : decode cX12_finds 39 = .ok (.getfield 160, 3) := by decide +kernel
theorem dX12_finds_42 : decode cX12_finds 42 = .ok (.iload_n 3, 1) := by decide +kernel
theorem dX12_finds_43 : decode cX12_finds 43 = .ok (.iaload, 1) := by decide +kernel
theorem dX12_finds_44 : decode cX12_finds 44 = .ok (.istore 4, 2) := by decide +kernel
theorem dX12_finds_46 : decode cX12_finds 46 = .ok (.iload 4, 2) := by decide +kernel
theorem dX12_finds_48 : decode cX12_finds 48 = .ok (.iconst (-1), 1) := by decide +kernel
theorem dX12_finds_49 : decode cX12_finds 49 = .ok (.if_icmp .eq 19, 3) := by decide +kernel
theorem dX12_finds_52 : decode cX12_finds 52 = .ok (.iload 4, 2) := by decide +kernel
theorem dX12_finds_54 : decode cX12_finds 54 = .ok (.iload_n 2, 1) := by decide +kernel
theorem dX12_finds_55 : decode cX12_finds 55 = .ok (.if_icmp .lt 22, 3) := by decide +kernel
theorem dX12_finds_58 : decode cX12_finds 58 = .ok (.aload_n 0, 1) := by decide +kernel
theorem dX12_finds_59 : decode cX12_finds 59 = .ok (.iload 4, 2) := by decide +kernel
theorem dX12_finds_61 : decode cX12_finds 61 = .ok (.iload_n 2, 1) := by decide +kernel
theorem dX12_finds_62 : decode cX12_finds 62 = .ok (.invokevirtual 307, 3) := by decide +kernel
theorem dX12_finds_65 : decode cX12_finds 65 = .ok (.ifCond .eq 12, 3) := by decide +kernel
theorem dX12_finds_68 : decode cX12_finds 68 = .ok (.aload_n 0, 1) := by decide +kernel
theorem dX12_finds_69 : decode cX12_finds 69 = .ok (.getfield 160, 3) := by decide +kernel
theorem dX12_finds_72 : decode cX12_finds 72 = .ok (.iload_n 3, 1) := by decide +kernel
theorem dX12_finds_73 : decode cX12_finds 73 = .ok (.iload_n 1, 1) := by decide +kernel
theorem dX12_finds_74 : decode cX12_finds 74 = .ok (.iastore, 1) := by decide +kernel
theorem dX12_finds_75 : decode cX12_finds 75 = .ok (.iconst 1, 1) := by decide +kernel
theorem dX12_finds_76 : decode cX12_finds 76 = .ok (.ireturn, 1) := by decide +kernel
theorem dX12_finds_77 : decode cX12_finds 77 = .ok (.iinc 3 1, 3) := by decide +kernel
theorem dX12_finds_80 : decode cX12_finds 80 = .ok (.goto (-78), 3) := by decide +kernel
theorem dX12_finds_83 : decode cX12_finds 83 = .ok (.iconst 0, 1) := by decide +kernel
theorem dX12_finds_84 : decode cX12_finds 84 = .ok (.ireturn, 1) := by decide +kernel
theorem dX12_most_0 : decode cX12_most 0 = .ok (.iconst 0, 1) := by decide +kernel
theorem dX12_most_1 : decode cX12_most 1 = .ok (.istore_n 2, 1) := by decide +kernel
theorem dX12_most_2 : decode cX12_most 2 = .ok (.iload_n 2, 1) := by decide +kernel
theorem dX12_most_3 : decode cX12_most 3 = .ok (.aload_n 0, 1) := by decide +kernel
theorem dX12_most_4 : decode cX12_most 4 = .ok (.getfield 257, 3) := by decide +kernel
theorem dX12_most_7 : decode cX12_most 7 = .ok (.if_icmp .ge 16, 3) := by decide +kernel
theorem dX12_most_10 : decode cX12_most 10 = .ok (.aload_n 0, 1) := by decide +kernel
theorem dX12_most_11 : decode cX12_most 11 = .ok (.getfield 160, 3) := by decide +kernel
theorem dX12_most_14 : decode cX12_most 14 = .ok (.iload_n 2, 1) := by decide +kernel
theorem dX12_most_15 : decode cX12_most 15 = .ok (.iconst (-1), 1) := by decide +kernel
theorem dX12_most_16 : decode cX12_most 16 = .ok (.iastore, 1) := by decide +kernel
theorem dX12_most_17 : decode cX12_most 17 = .ok (.iinc 2 1, 3) := by decide +kernel
theorem dX12_most_20 : decode cX12_most 20 = .ok (.goto (-18), 3) := by decide +kernel
theorem dX12_most_23 : decode cX12_most 23 = .ok (.iconst 0, 1) := by decide +kernel
theorem dX12_most_24 : decode cX12_most 24 = .ok (.istore_n 2, 1) := by decide +kernel
theorem dX12_most_25 : decode cX12_most 25 = .ok (.iconst 0, 1) := by decide +kernel
theorem dX12_most_26 : decode cX12_most 26 = .ok (.istore_n 3, 1) := by decide +kernel
theorem dX12_most_27 : decode cX12_most 27 = .ok (.iload_n 3, 1) := by decide +kernel
theorem dX12_most_28 : decode cX12_most 28 = .ok (.iload_n 1, 1) := by decide +kernel
theorem dX12_most_29 : decode cX12_most 29 = .ok (.if_icmp .ge 34, 3) := by decide +kernel
theorem dX12_most_32 : decode cX12_most 32 = .ok (.aload_n 0, 1) := by decide +kernel
theorem dX12_most_33 : decode cX12_most 33 = .ok (.getfield 157, 3) := by decide +kernel
theorem dX12_most_36 : decode cX12_most 36 = .ok (.iload_n 3, 1) := by decide +kernel
theorem dX12_most_37 : decode cX12_most 37 = .ok (.iaload, 1) := by decide +kernel
theorem dX12_most_38 : decode cX12_most 38 = .ok (.iconst (-1), 1) := by decide +kernel
theorem dX12_most_39 : decode cX12_most 39 = .ok (.if_icmp .eq 18, 3) := by decide +kernel
theorem dX12_most_42 : decode cX12_most 42 = .ok (.aload_n 0, 1) := by decide +kernel
theorem dX12_most_43 : decode cX12_most 43 = .ok (.getfield 160, 3) := by decide +kernel
theorem dX12_most_46 : decode cX12_most 46 = .ok (.aload_n 0, 1) := by decide +kernel
theorem dX12_most_47 : decode cX12_most 47 = .ok (.getfield 157, 3) := by decide +kernel
theorem dX12_most_50 : decode cX12_most 50 = .ok (.iload_n 3, 1) := by decide +kernel
theorem dX12_most_51 : decode cX12_most 51 = .ok (.iaload, 1) := by decide +kernel
theorem dX12_most_52 : decode cX12_most 52 = .ok (.iload_n 3, 1) := by decide +kernel
theorem dX12_most_53 : decode cX12_most 53 = .ok (.iastore, 1) := by decide +kernel
theorem dX12_most_54 : decode cX12_most 54 = .ok (.iinc 2 1, 3) := by decide +kernel
theorem dX12_most_57 : decode cX12_most 57 = .ok (.iinc 3 1, 3) := by decide +kernel
theorem dX12_most_60 : decode cX12_most 60 = .ok (.goto (-33), 3) := by decide +kernel
theorem dX12_most_63 : decode cX12_most 63 = .ok (.iload_n 1, 1) := by decide +kernel
theorem dX12_most_64 : decode cX12_most 64 = .ok (.istore_n 3, 1) := by decide +kernel
theorem dX12_most_65 : decode cX12_most 65 = .ok (.iload_n 3, 1) := by decide +kernel
theorem dX12_most_66 : decode cX12_most 66 = .ok (.aload_n 0, 1) := by decide +kernel
theorem dX12_most_67 : decode cX12_most 67 = .ok (.getfield 300, 3) := by decide +kernel
theorem dX12_most_70 : decode cX12_most 70 = .ok (.if_icmp .ge 52, 3) := by decide +kernel
theorem dX12_most_73 : decode cX12_most 73 = .ok (.iconst 0, 1) := by decide +kernel
theorem dX12_most_74 : decode cX12_most 74 = .ok (.istore 4, 2) := by decide +kernel
theorem dX12_most_76 : decode cX12_most 76 = .ok (.iload 4, 2) := by decide +kernel
theorem dX12_most_78 : decode cX12_most 78 = .ok (.aload_n 0, 1) := by decide +kernel
theorem dX12_most_79 : decode cX12_most 79 = .ok (.getfield 257, 3) := by decide +kernel
theorem dX12_most_82 : decode cX12_most 82 = .ok (.if_icmp .ge 17, 3) := by decide +kernel
theorem dX12_most_85 : decode cX12_most 85 = .ok (.aload_n 0, 1) := by decide +kernel
theorem dX12_most_86 : decode cX12_most 86 = .ok (.getfield 163, 3) := by decide +kernel
theorem dX12_most_89 : decode cX12_most 89 = .ok (.iload 4, 2) := by decide +kernel
theorem dX12_most_91 : decode cX12_most 91 = .ok (.iconst 0, 1) := by decide +kernel
theorem dX12_most_92 : decode cX12_most 92 = .ok (.bastore, 1) := by decide +kernel
theorem dX12_most_93 : decode cX12_most 93 = .ok (.iinc 4 1, 3) := by decide +kernel
theorem dX12_most_96 : decode cX12_most 96 = .ok (.goto (-20), 3) := by decide +kernel
theorem dX12_most_99 : decode cX12_most 99 = .ok (.iload_n 2, 1) := by decide +kernel
theorem dX12_most_100 : decode cX12_most 100 = .ok (.aload_n 0, 1) := by decide +kernel
theorem dX12_most_101 : decode cX12_most 101 = .ok (.iload_n 3, 1) := by decide +kernel
theorem dX12_most_102 : decode cX12_most 102 = .ok (.iload_n 1, 1) := by decide +kernel
theorem dX12_most_103 : decode cX12_most 103 = .ok (.invokevirtual 307, 3) := by decide +kernel
theorem dX12_most_106 : decode cX12_most 106 = .ok (.ifCond .eq 7, 3) := by decide +kernel
theorem dX12_most_109 : decode cX12_most 109 = .ok (.iconst 1, 1) := by decide +kernel
theorem dX12_most_110 : decode cX12_most 110 = .ok (.goto 4, 3) := by decide +kernel
theorem dX12_most_113 : decode cX12_most 113 = .ok (.iconst 0, 1) := by decide +kernel
theorem dX12_most_114 : decode cX12_most 114 = .ok (.iadd, 1) := by decide +kernel
theorem dX12_most_115 : decode cX12_most 115 = .ok (.istore_n 2, 1) := by decide +kernel
theorem dX12_most_116 : decode cX12_most 116 = .ok (.iinc 3 1, 3) := by decide +kernel
theorem dX12_most_119 : decode cX12_most 119 = .ok (.goto (-54), 3) := by decide +kernel
theorem dX12_most_122 : decode cX12_most 122 = .ok (.iload_n 2, 1) := by decide +kernel
theorem dX12_most_123 : decode cX12_most 123 = .ok (.ireturn, 1) := by decide +kernel
theorem dX12_isGiven_0 : decode cX12_isGiven 0 = .ok (.iconst 0, 1) := by decide +kernel
theorem dX12_isGiven_1 : decode cX12_isGiven 1 = .ok (.istore_n 3, 1) := by decide +kernel
theorem dX12_isGiven_2 : decode cX12_isGiven 2 = .ok (.iload_n 3, 1) := by decide +kernel
theorem dX12_isGiven_3 : decode cX12_isGiven 3 = .ok (.iload_n 2, 1) := by decide +kernel
theorem dX12_isGiven_4 : decode cX12_isGiven 4 = .ok (.if_icmp .ge 21, 3) := by decide +kernel
theorem dX12_isGiven_7 : decode cX12_isGiven 7 = .ok (.aload_n 0, 1) := by decide +kernel
theorem dX12_isGiven_8 : decode cX12_isGiven 8 = .ok (.getfield 157, 3) := by decide +kernel
theorem dX12_isGiven_11 : decode cX12_isGiven 11 = .ok (.iload_n 3, 1) := by decide +kernel
theorem dX12_isGiven_12 : decode cX12_isGiven 12 = .ok (.iaload, 1) := by decide +kernel
theorem dX12_isGiven_13 : decode cX12_isGiven 13 = .ok (.iload_n 1, 1) := by decide +kernel
theorem dX12_isGiven_14 : decode cX12_isGiven 14 = .ok (.if_icmp .ne 5, 3) := by decide +kernel
theorem dX12_isGiven_17 : decode cX12_isGiven 17 = .ok (.iconst 1, 1) := by decide +kernel
theorem dX12_isGiven_18 : decode cX12_isGiven 18 = .ok (.ireturn, 1) := by decide +kernel
theorem dX12_isGiven_19 : decode cX12_isGiven 19 = .ok (.iinc 3 1, 3) := by decide +kernel
theorem dX12_isGiven_22 : decode cX12_isGiven 22 = .ok (.goto (-20), 3) := by decide +kernel
theorem dX12_isGiven_25 : decode cX12_isGiven 25 = .ok (.iconst 0, 1) := by decide +kernel
theorem dX12_isGiven_26 : decode cX12_isGiven 26 = .ok (.ireturn, 1) := by decide +kernel
theorem dX12_giveAll_0 : decode cX12_giveAll 0 = .ok (.aload_n 0, 1) := by decide +kernel
theorem dX12_giveAll_1 : decode cX12_giveAll 1 = .ok (.iconst 0, 1) := by decide +kernel
theorem dX12_giveAll_2 : decode cX12_giveAll 2 = .ok (.invokevirtual 310, 3) := by decide +kernel
theorem dX12_giveAll_5 : decode cX12_giveAll 5 = .ok (.istore_n 1, 1) := by decide +kernel
theorem dX12_giveAll_6 : decode cX12_giveAll 6 = .ok (.iconst 0, 1) := by decide +kernel
theorem dX12_giveAll_7 : decode cX12_giveAll 7 = .ok (.istore_n 2, 1) := by decide +kernel
theorem dX12_giveAll_8 : decode cX12_giveAll 8 = .ok (.iload_n 2, 1) := by decide +kernel
theorem dX12_giveAll_9 : decode cX12_giveAll 9 = .ok (.aload_n 0, 1) := by decide +kernel
theorem dX12_giveAll_10 : decode cX12_giveAll 10 = .ok (.getfield 300, 3) := by decide +kernel
theorem dX12_giveAll_13 : decode cX12_giveAll 13 = .ok (.if_icmp .ge 89, 3) := by decide +kernel
theorem dX12_giveAll_16 : decode cX12_giveAll 16 = .ok (.iconst 0, 1) := by decide +kernel
theorem dX12_giveAll_17 : decode cX12_giveAll 17 = .ok (.istore_n 3, 1) := by decide +kernel
theorem dX12_giveAll_18 : decode cX12_giveAll 18 = .ok (.iconst 0, 1) := by decide +kernel
theorem dX12_giveAll_19 : decode cX12_giveAll 19 = .ok (.istore 4, 2) := by decide +kernel
theorem dX12_giveAll_21 : decode cX12_giveAll 21 = .ok (.iload 4, 2) := by decide +kernel
theorem dX12_giveAll_23 : decode cX12_giveAll 23 = .ok (.aload_n 0, 1) := by decide +kernel
theorem dX12_giveAll_24 : decode cX12_giveAll 24 = .ok (.getfield 257, 3) := by decide +kernel
theorem dX12_giveAll_27 : decode cX12_giveAll 27 = .ok (.if_icmp .ge 58, 3) := by decide +kernel
theorem dX12_giveAll_30 : decode cX12_giveAll 30 = .ok (.iload_n 3, 1) := by decide +kernel
theorem dX12_giveAll_31 : decode cX12_giveAll 31 = .ok (.ifCond .ne 54, 3) := by decide +kernel
theorem dX12_giveAll_34 : decode cX12_giveAll 34 = .ok (.aload_n 0, 1) := by decide +kernel
theorem dX12_giveAll_35 : decode cX12_giveAll 35 = .ok (.iload_n 2, 1) := by decide +kernel
theorem dX12_giveAll_36 : decode cX12_giveAll 36 = .ok (.iload 4, 2) := by decide +kernel
theorem dX12_giveAll_38 : decode cX12_giveAll 38 = .ok (.invokevirtual 303, 3) := by decide +kernel
theorem dX12_giveAll_41 : decode cX12_giveAll 41 = .ok (.ifCond .eq 38, 3) := by decide +kernel
theorem dX12_giveAll_44 : decode cX12_giveAll 44 = .ok (.aload_n 0, 1) := by decide +kernel
theorem dX12_giveAll_45 : decode cX12_giveAll 45 = .ok (.iload 4, 2) := by decide +kernel
theorem dX12_giveAll_47 : decode cX12_giveAll 47 = .ok (.iload_n 2, 1) := by decide +kernel
theorem dX12_giveAll_48 : decode cX12_giveAll 48 = .ok (.invokevirtual 313, 3) := by decide +kernel
theorem dX12_giveAll_51 : decode cX12_giveAll 51 = .ok (.ifCond .ne 28, 3) := by decide +kernel
theorem dX12_giveAll_54 : decode cX12_giveAll 54 = .ok (.aload_n 0, 1) := by decide +kernel
theorem dX12_giveAll_55 : decode cX12_giveAll 55 = .ok (.getfield 157, 3) := by decide +kernel
theorem dX12_giveAll_58 : decode cX12_giveAll 58 = .ok (.iload_n 2, 1) := by decide +kernel
theorem dX12_giveAll_59 : decode cX12_giveAll 59 = .ok (.iload 4, 2) := by decide +kernel
theorem dX12_giveAll_61 : decode cX12_giveAll 61 = .ok (.iastore, 1) := by decide +kernel
theorem dX12_giveAll_62 : decode cX12_giveAll 62 = .ok (.aload_n 0, 1) := by decide +kernel
theorem dX12_giveAll_63 : decode cX12_giveAll 63 = .ok (.iload_n 2, 1) := by decide +kernel
theorem dX12_giveAll_64 : decode cX12_giveAll 64 = .ok (.iconst 1, 1) := by decide +kernel
theorem dX12_giveAll_65 : decode cX12_giveAll 65 = .ok (.iadd, 1) := by decide +kernel
theorem dX12_giveAll_66 : decode cX12_giveAll 66 = .ok (.invokevirtual 310, 3) := by decide +kernel
theorem dX12_giveAll_69 : decode cX12_giveAll 69 = .ok (.iload_n 1, 1) := by decide +kernel
theorem dX12_giveAll_70 : decode cX12_giveAll 70 = .ok (.if_icmp .ne 7, 3) := by decide +kernel
theorem dX12_giveAll_73 : decode cX12_giveAll 73 = .ok (.iconst 1, 1) := by decide +kernel
theorem dX12_giveAll_74 : decode cX12_giveAll 74 = .ok (.goto 4, 3) := by decide +kernel
theorem dX12_giveAll_77 : decode cX12_giveAll 77 = .ok (.iconst 0, 1) := by decide +kernel
theorem dX12_giveAll_78 : decode cX12_giveAll 78 = .ok (.istore_n 3, 1) := by decide +kernel
theorem dX12_giveAll_79 : decode cX12_giveAll 79 = .ok (.iinc 4 1, 3) := by decide +kernel
theorem dX12_giveAll_82 : decode cX12_giveAll 82 = .ok (.goto (-61), 3) := by decide +kernel
theorem dX12_giveAll_85 : decode cX12_giveAll 85 = .ok (.iload_n 3, 1) := by decide +kernel
theorem dX12_giveAll_86 : decode cX12_giveAll 86 = .ok (.ifCond .ne 10, 3) := by decide +kernel
theorem dX12_giveAll_89 : decode cX12_giveAll 89 = .ok (.aload_n 0, 1) := by decide +kernel
theorem dX12_giveAll_90 : decode cX12_giveAll 90 = .ok (.getfield 157, 3) := by decide +kernel
theorem dX12_giveAll_93 : decode cX12_giveAll 93 = .ok (.iload_n 2, 1) := by decide +kernel
theorem dX12_giveAll_94 : decode cX12_giveAll 94 = .ok (.iconst (-1), 1) := by decide +kernel
theorem dX12_giveAll_95 : decode cX12_giveAll 95 = .ok (.iastore, 1) := by decide +kernel
theorem dX12_giveAll_96 : decode cX12_giveAll 96 = .ok (.iinc 2 1, 3) := by decide +kernel
theorem dX12_giveAll_99 : decode cX12_giveAll 99 = .ok (.goto (-91), 3) := by decide +kernel
theorem dX12_giveAll_102 : decode cX12_giveAll 102 = .ok (.iload_n 1, 1) := by decide +kernel
theorem dX12_giveAll_103 : decode cX12_giveAll 103 = .ok (.ireturn, 1) := by decide +kernel
theorem dX12_met_0 : decode cX12_met 0 = .ok (.iload_n 1, 1) := by decide +kernel
theorem dX12_met_1 : decode cX12_met 1 = .ok (.iconst 0, 1) := by decide +kernel
theorem dX12_met_2 : decode cX12_met 2 = .ok (.aload_n 0, 1) := by decide +kernel
theorem dX12_met_3 : decode cX12_met 3 = .ok (.getfield 300, 3) := by decide +kernel
theorem dX12_met_6 : decode cX12_met 6 = .ok (.iconst 1, 1) := by decide +kernel
theorem dX12_met_7 : decode cX12_met 7 = .ok (.isub, 1) := by decide +kernel
theorem dX12_met_8 : decode cX12_met 8 = .ok (.invokestatic 169, 3) := by decide +kernel
theorem dX12_met_11 : decode cX12_met 11 = .ok (.ifCond .ne 5, 3) := by decide +kernel
theorem dX12_met_14 : decode cX12_met 14 = .ok (.iconst (-1), 1) := by decide +kernel
theorem dX12_met_15 : decode cX12_met 15 = .ok (.ireturn, 1) := by decide +kernel
theorem dX12_met_16 : decode cX12_met 16 = .ok (.aload_n 0, 1) := by decide +kernel
theorem dX12_met_17 : decode cX12_met 17 = .ok (.invokevirtual 316, 3) := by decide +kernel
theorem dX12_met_20 : decode cX12_met 20 = .ok (.pop, 1) := by decide +kernel
theorem dX12_met_21 : decode cX12_met 21 = .ok (.aload_n 0, 1) := by decide +kernel
theorem dX12_met_22 : decode cX12_met 22 = .ok (.getfield 157, 3) := by decide +kernel
theorem dX12_met_25 : decode cX12_met 25 = .ok (.iload_n 1, 1) := by decide +kernel
theorem dX12_met_26 : decode cX12_met 26 = .ok (.iaload, 1) := by decide +kernel
theorem dX12_met_27 : decode cX12_met 27 = .ok (.ireturn, 1) := by decide +kernel
theorem dX12_couldHave_0 : decode cX12_couldHave 0 = .ok (.iconst 0, 1) := by decide +kernel
theorem dX12_couldHave_1 : decode cX12_couldHave 1 = .ok (.istore_n 2, 1) := by decide +kernel
theorem dX12_couldHave_2 : decode cX12_couldHave 2 = .ok (.iconst 0, 1) := by decide +kernel
theorem dX12_couldHave_3 : decode cX12_couldHave 3 = .ok (.istore_n 3, 1) := by decide +kernel
theorem dX12_couldHave_4 : decode cX12_couldHave 4 = .ok (.iload_n 3, 1) := by decide +kernel
theorem dX12_couldHave_5 : decode cX12_couldHave 5 = .ok (.aload_n 0, 1) := by decide +kernel
theorem dX12_couldHave_6 : decode cX12_couldHave 6 = .ok (.getfield 257, 3) := by decide +kernel
theorem dX12_couldHave_9 : decode cX12_couldHave 9 = .ok (.if_icmp .ge 75, 3) := by decide +kernel
theorem dX12_couldHave_12 : decode cX12_couldHave 12 = .ok (.iconst 0, 1) := by decide +kernel
theorem dX12_couldHave_13 : decode cX12_couldHave 13 = .ok (.istore 4, 2) := by decide +kernel
theorem dX12_couldHave_15 : decode cX12_couldHave 15 = .ok (.iconst 0, 1) := by decide +kernel
theorem dX12_couldHave_16 : decode cX12_couldHave 16 = .ok (.istore 5, 2) := by decide +kernel
theorem dX12_couldHave_18 : decode cX12_couldHave 18 = .ok (.iload 5, 2) := by decide +kernel
theorem dX12_couldHave_20 : decode cX12_couldHave 20 = .ok (.aload_n 0, 1) := by decide +kernel
theorem dX12_couldHave_21 : decode cX12_couldHave 21 = .ok (.getfield 300, 3) := by decide +kernel
theorem dX12_couldHave_24 : decode cX12_couldHave 24 = .ok (.if_icmp .ge 41, 3) := by decide +kernel
theorem dX12_couldHave_27 : decode cX12_couldHave 27 = .ok (.iload 4, 2) := by decide +kernel
theorem dX12_couldHave_29 : decode cX12_couldHave 29 = .ok (.ifCond .ne 23, 3) := by decide +kernel
theorem dX12_couldHave_32 : decode cX12_couldHave 32 = .ok (.iload_n 1, 1) := by decide +kernel
theorem dX12_couldHave_33 : decode cX12_couldHave 33 = .ok (.iload 5, 2) := by decide +kernel
theorem dX12_couldHave_35 : decode cX12_couldHave 35 = .ok (.ishr, 1) := by decide +kernel
theorem dX12_couldHave_36 : decode cX12_couldHave 36 = .ok (.iconst 1, 1) := by decide +kernel
theorem dX12_couldHave_37 : decode cX12_couldHave 37 = .ok (.iand, 1) := by decide +kernel
theorem dX12_couldHave_38 : decode cX12_couldHave 38 = .ok (.iconst 1, 1) := by decide +kernel
theorem dX12_couldHave_39 : decode cX12_couldHave 39 = .ok (.if_icmp .ne 17, 3) := by decide +kernel
theorem dX12_couldHave_42 : decode cX12_couldHave 42 = .ok (.aload_n 0, 1) := by decide +kernel
theorem dX12_couldHave_43 : decode cX12_couldHave 43 = .ok (.iload 5, 2) := by decide +kernel
theorem dX12_couldHave_45 : decode cX12_couldHave 45 = .ok (.iload_n 3, 1) := by decide +kernel
theorem dX12_couldHave_46 : decode cX12_couldHave 46 = .ok (.invokevirtual 303, 3) := by decide +kernel
theorem dX12_couldHave_49 : decode cX12_couldHave 49 = .ok (.ifCond .eq 7, 3) := by decide +kernel
theorem dX12_couldHave_52 : decode cX12_couldHave 52 = .ok (.iconst 1, 1) := by decide +kernel
theorem dX12_couldHave_53 : decode cX12_couldHave 53 = .ok (.goto 4, 3) := by decide +kernel
theorem dX12_couldHave_56 : decode cX12_couldHave 56 = .ok (.iconst 0, 1) := by decide +kernel
theorem dX12_couldHave_57 : decode cX12_couldHave 57 = .ok (.istore 4, 2) := by decide +kernel
theorem dX12_couldHave_59 : decode cX12_couldHave 59 = .ok (.iinc 5 1, 3) := by decide +kernel
theorem dX12_couldHave_62 : decode cX12_couldHave 62 = .ok (.goto (-44), 3) := by decide +kernel
theorem dX12_couldHave_65 : decode cX12_couldHave 65 = .ok (.iload_n 2, 1) := by decide +kernel
theorem dX12_couldHave_66 : decode cX12_couldHave 66 = .ok (.iload 4, 2) := by decide +kernel
theorem dX12_couldHave_68 : decode cX12_couldHave 68 = .ok (.ifCond .eq 7, 3) := by decide +kernel
theorem dX12_couldHave_71 : decode cX12_couldHave 71 = .ok (.iconst 1, 1) := by decide +kernel
theorem dX12_couldHave_72 : decode cX12_couldHave 72 = .ok (.goto 4, 3) := by decide +kernel
theorem dX12_couldHave_75 : decode cX12_couldHave 75 = .ok (.iconst 0, 1) := by decide +kernel
theorem dX12_couldHave_76 : decode cX12_couldHave 76 = .ok (.iadd, 1) := by decide +kernel
theorem dX12_couldHave_77 : decode cX12_couldHave 77 = .ok (.istore_n 2, 1) := by decide +kernel
theorem dX12_couldHave_78 : decode cX12_couldHave 78 = .ok (.iinc 3 1, 3) := by decide +kernel
theorem dX12_couldHave_81 : decode cX12_couldHave 81 = .ok (.goto (-77), 3) := by decide +kernel
theorem dX12_couldHave_84 : decode cX12_couldHave 84 = .ok (.iload_n 2, 1) := by decide +kernel
theorem dX12_couldHave_85 : decode cX12_couldHave 85 = .ok (.ireturn, 1) := by decide +kernel
theorem dX12_want_0 : decode cX12_want 0 = .ok (.aload_n 0, 1) := by decide +kernel
theorem dX12_want_1 : decode cX12_want 1 = .ok (.iconst 0, 1) := by decide +kernel
theorem dX12_want_2 : decode cX12_want 2 = .ok (.invokevirtual 310, 3) := by decide +kernel
theorem dX12_want_5 : decode cX12_want 5 = .ok (.aload_n 0, 1) := by decide +kernel
theorem dX12_want_6 : decode cX12_want 6 = .ok (.getfield 300, 3) := by decide +kernel
theorem dX12_want_9 : decode cX12_want 9 = .ok (.if_icmp .ne 5, 3) := by decide +kernel
theorem dX12_want_12 : decode cX12_want 12 = .ok (.iconst 0, 1) := by decide +kernel
theorem dX12_want_13 : decode cX12_want 13 = .ok (.ireturn, 1) := by decide +kernel
theorem dX12_want_14 : decode cX12_want 14 = .ok (.iconst 1, 1) := by decide +kernel
theorem dX12_want_15 : decode cX12_want 15 = .ok (.istore_n 1, 1) := by decide +kernel
theorem dX12_want_16 : decode cX12_want 16 = .ok (.iload_n 1, 1) := by decide +kernel
theorem dX12_want_17 : decode cX12_want 17 = .ok (.iconst 1, 1) := by decide +kernel
theorem dX12_want_18 : decode cX12_want 18 = .ok (.aload_n 0, 1) := by decide +kernel
theorem dX12_want_19 : decode cX12_want 19 = .ok (.getfield 300, 3) := by decide +kernel
theorem dX12_want_22 : decode cX12_want 22 = .ok (.ishl, 1) := by decide +kernel
theorem dX12_want_23 : decode cX12_want 23 = .ok (.if_icmp .ge 23, 3) := by decide +kernel
theorem dX12_want_26 : decode cX12_want 26 = .ok (.iload_n 1, 1) := by decide +kernel
theorem dX12_want_27 : decode cX12_want 27 = .ok (.invokestatic 319, 3) := by decide +kernel
theorem dX12_want_30 : decode cX12_want 30 = .ok (.aload_n 0, 1) := by decide +kernel
theorem dX12_want_31 : decode cX12_want 31 = .ok (.iload_n 1, 1) := by decide +kernel
theorem dX12_want_32 : decode cX12_want 32 = .ok (.invokevirtual 324, 3) := by decide +kernel
theorem dX12_want_35 : decode cX12_want 35 = .ok (.if_icmp .le 5, 3) := by decide +kernel
theorem dX12_want_38 : decode cX12_want 38 = .ok (.iload_n 1, 1) := by decide +kernel
theorem dX12_want_39 : decode cX12_want 39 = .ok (.ireturn, 1) := by decide +kernel
theorem dX12_want_40 : decode cX12_want 40 = .ok (.iinc 1 1, 3) := by decide +kernel
theorem dX12_want_43 : decode cX12_want 43 = .ok (.goto (-27), 3) := by decide +kernel
theorem dX12_want_46 : decode cX12_want 46 = .ok (.iconst 0, 1) := by decide +kernel
theorem dX12_want_47 : decode cX12_want 47 = .ok (.ireturn, 1) := by decide +kernel
theorem dX12_ground_0 : decode cX12_ground 0 = .ok (.aload_n 0, 1) := by decide +kernel
theorem dX12_ground_1 : decode cX12_ground 1 = .ok (.iload_n 1, 1) := by decide +kernel
theorem dX12_ground_2 : decode cX12_ground 2 = .ok (.invokevirtual 178, 3) := by decide +kernel
theorem dX12_ground_5 : decode cX12_ground 5 = .ok (.ifCond .ne 5, 3) := by decide +kernel
theorem dX12_ground_8 : decode cX12_ground 8 = .ok (.iconst (-1), 1) := by decide +kernel
theorem dX12_ground_9 : decode cX12_ground 9 = .ok (.ireturn, 1) := by decide +kernel
theorem dX12_ground_10 : decode cX12_ground 10 = .ok (.iload_n 2, 1) := by decide +kernel
theorem dX12_ground_11 : decode cX12_ground 11 = .ok (.tableswitch 90 0 6 #[41, 48, 55, 62, 69, 76, 83], 41) := by decide +kernel
theorem dX12_ground_52 : decode cX12_ground 52 = .ok (.aload_n 0, 1) := by decide +kernel
theorem dX12_ground_53 : decode cX12_ground 53 = .ok (.getfield 9, 3) := by decide +kernel
theorem dX12_ground_56 : decode cX12_ground 56 = .ok (.iload_n 1, 1) := by decide +kernel
theorem dX12_ground_57 : decode cX12_ground 57 = .ok (.iaload, 1) := by decide +kernel
theorem dX12_ground_58 : decode cX12_ground 58 = .ok (.ireturn, 1) := by decide +kernel
theorem dX12_ground_59 : decode cX12_ground 59 = .ok (.aload_n 0, 1) := by decide +kernel
theorem dX12_ground_60 : decode cX12_ground 60 = .ok (.getfield 13, 3) := by decide +kernel
theorem dX12_ground_63 : decode cX12_ground 63 = .ok (.iload_n 1, 1) := by decide +kernel
theorem dX12_ground_64 : decode cX12_ground 64 = .ok (.iaload, 1) := by decide +kernel
theorem dX12_ground_65 : decode cX12_ground 65 = .ok (.ireturn, 1) := by decide +kernel
theorem dX12_ground_66 : decode cX12_ground 66 = .ok (.aload_n 0, 1) := by decide +kernel
theorem dX12_ground_67 : decode cX12_ground 67 = .ok (.getfield 16, 3) := by decide +kernel
theorem dX12_ground_70 : decode cX12_ground 70 = .ok (.iload_n 1, 1) := by decide +kernel
theorem dX12_ground_71 : decode cX12_ground 71 = .ok (.iaload, 1) := by decide +kernel
theorem dX12_ground_72 : decode cX12_ground 72 = .ok (.ireturn, 1) := by decide +kernel
theorem dX12_ground_73 : decode cX12_ground 73 = .ok (.aload_n 0, 1) := by decide +kernel
theorem dX12_ground_74 : decode cX12_ground 74 = .ok (.getfield 19, 3) := by decide +kernel
theorem dX12_ground_77 : decode cX12_ground 77 = .ok (.iload_n 1, 1) := by decide +kernel
theorem dX12_ground_78 : decode cX12_ground 78 = .ok (.iaload, 1) := by decide +kernel
theorem dX12_ground_79 : decode cX12_ground 79 = .ok (.ireturn, 1) := by decide +kernel
theorem dX12_ground_80 : decode cX12_ground 80 = .ok (.aload_n 0, 1) := by decide +kernel
theorem dX12_ground_81 : decode cX12_ground 81 = .ok (.getfield 22, 3) := by decide +kernel
theorem dX12_ground_84 : decode cX12_ground 84 = .ok (.iload_n 1, 1) := by decide +kernel
theorem dX12_ground_85 : decode cX12_ground 85 = .ok (.iaload, 1) := by decide +kernel
theorem dX12_ground_86 : decode cX12_ground 86 = .ok (.ireturn, 1) := by decide +kernel
theorem dX12_ground_87 : decode cX12_ground 87 = .ok (.aload_n 0, 1) := by decide +kernel
theorem dX12_ground_88 : decode cX12_ground 88 = .ok (.getfield 25, 3) := by decide +kernel
theorem dX12_ground_91 : decode cX12_ground 91 = .ok (.iload_n 1, 1) := by decide +kernel
theorem dX12_ground_92 : decode cX12_ground 92 = .ok (.iaload, 1) := by decide +kernel
theorem dX12_ground_93 : decode cX12_ground 93 = .ok (.ireturn, 1) := by decide +kernel
theorem dX12_ground_94 : decode cX12_ground 94 = .ok (.aload_n 0, 1) := by decide +kernel
theorem dX12_ground_95 : decode cX12_ground 95 = .ok (.getfield 28, 3) := by decide +kernel
theorem dX12_ground_98 : decode cX12_ground 98 = .ok (.iload_n 1, 1) := by decide +kernel
theorem dX12_ground_99 : decode cX12_ground 99 = .ok (.iaload, 1) := by decide +kernel
theorem dX12_ground_100 : decode cX12_ground 100 = .ok (.ireturn, 1) := by decide +kernel
theorem dX12_ground_101 : decode cX12_ground 101 = .ok (.iconst (-1), 1) := by decide +kernel
theorem dX12_ground_102 : decode cX12_ground 102 = .ok (.ireturn, 1) := by decide +kernel
theorem dX12_count_0 : decode cX12_count 0 = .ok (.iload_n 1, 1) := by decide +kernel
theorem dX12_count_1 : decode cX12_count 1 = .ok (.tableswitch 109 0 9 #[55, 60, 65, 70, 75, 80, 85, 91, 96, 104], 55) := by decide +kernel
theorem dX12_count_56 : decode cX12_count 56 = .ok (.aload_n 0, 1) := by decide +kernel
theorem dX12_count_57 : decode cX12_count 57 = .ok (.getfield 191, 3) := by decide +kernel
theorem dX12_count_60 : decode cX12_count 60 = .ok (.ireturn, 1) := by decide +kernel
theorem dX12_count_61 : decode cX12_count 61 = .ok (.aload_n 0, 1) := by decide +kernel
theorem dX12_count_62 : decode cX12_count 62 = .ok (.getfield 166, 3) := by decide +kernel
theorem dX12_count_65 : decode cX12_count 65 = .ok (.ireturn, 1) := by decide +kernel
theorem dX12_count_66 : decode cX12_count 66 = .ok (.aload_n 0, 1) := by decide +kernel
theorem dX12_count_67 : decode cX12_count 67 = .ok (.getfield 257, 3) := by decide +kernel
theorem dX12_count_70 : decode cX12_count 70 = .ok (.ireturn, 1) := by decide +kernel
theorem dX12_count_71 : decode cX12_count 71 = .ok (.aload_n 0, 1) := by decide +kernel
theorem dX12_count_72 : decode cX12_count 72 = .ok (.getfield 294, 3) := by decide +kernel
theorem dX12_count_75 : decode cX12_count 75 = .ok (.ireturn, 1) := by decide +kernel
theorem dX12_count_76 : decode cX12_count 76 = .ok (.aload_n 0, 1) := by decide +kernel
theorem dX12_count_77 : decode cX12_count 77 = .ok (.getfield 287, 3) := by decide +kernel
theorem dX12_count_80 : decode cX12_count 80 = .ok (.ireturn, 1) := by decide +kernel
theorem dX12_count_81 : decode cX12_count 81 = .ok (.aload_n 0, 1) := by decide +kernel
theorem dX12_count_82 : decode cX12_count 82 = .ok (.getfield 300, 3) := by decide +kernel
theorem dX12_count_85 : decode cX12_count 85 = .ok (.ireturn, 1) := by decide +kernel
theorem dX12_count_86 : decode cX12_count 86 = .ok (.aload_n 0, 1) := by decide +kernel
theorem dX12_count_87 : decode cX12_count 87 = .ok (.iconst 0, 1) := by decide +kernel
theorem dX12_count_88 : decode cX12_count 88 = .ok (.invokevirtual 310, 3) := by decide +kernel
theorem dX12_count_91 : decode cX12_count 91 = .ok (.ireturn, 1) := by decide +kernel
theorem dX12_count_92 : decode cX12_count 92 = .ok (.aload_n 0, 1) := by decide +kernel
theorem dX12_count_93 : decode cX12_count 93 = .ok (.getfield 234, 3) := by decide +kernel
theorem dX12_count_96 : decode cX12_count 96 = .ok (.ireturn, 1) := by decide +kernel
theorem dX12_count_97 : decode cX12_count 97 = .ok (.aload_n 0, 1) := by decide +kernel
theorem dX12_count_98 : decode cX12_count 98 = .ok (.getfield 31, 3) := by decide +kernel
theorem dX12_count_101 : decode cX12_count 101 = .ok (.invokestatic 195, 3) := by decide +kernel
theorem dX12_count_104 : decode cX12_count 104 = .ok (.ireturn, 1) := by decide +kernel
theorem dX12_count_105 : decode cX12_count 105 = .ok (.aload_n 0, 1) := by decide +kernel
theorem dX12_count_106 : decode cX12_count 106 = .ok (.getfield 264, 3) := by decide +kernel
theorem dX12_count_109 : decode cX12_count 109 = .ok (.ireturn, 1) := by decide +kernel
theorem dX12_count_110 : decode cX12_count 110 = .ok (.iconst (-1), 1) := by decide +kernel
theorem dX12_count_111 : decode cX12_count 111 = .ok (.ireturn, 1) := by decide +kernel
theorem dJ6_bitCount_0f7a4_0 : decode cJ6_bitCount_0f7a4 0 = .ok (.iload_n 0, 1) := by decide +kernel
theorem dJ6_bitCount_0f7a4_1 : decode cJ6_bitCount_0f7a4 1 = .ok (.iload_n 0, 1) := by decide +kernel
theorem dJ6_bitCount_0f7a4_2 : decode cJ6_bitCount_0f7a4 2 = .ok (.iconst 1, 1) := by decide +kernel
theorem dJ6_bitCount_0f7a4_3 : decode cJ6_bitCount_0f7a4 3 = .ok (.iushr, 1) := by decide +kernel
theorem dJ6_bitCount_0f7a4_4 : decode cJ6_bitCount_0f7a4 4 = .ok (.ldc_w 265, 3) := by decide +kernel
theorem dJ6_bitCount_0f7a4_7 : decode cJ6_bitCount_0f7a4 7 = .ok (.iand, 1) := by decide +kernel
theorem dJ6_bitCount_0f7a4_8 : decode cJ6_bitCount_0f7a4 8 = .ok (.isub, 1) := by decide +kernel
theorem dJ6_bitCount_0f7a4_9 : decode cJ6_bitCount_0f7a4 9 = .ok (.istore_n 0, 1) := by decide +kernel
theorem dJ6_bitCount_0f7a4_10 : decode cJ6_bitCount_0f7a4 10 = .ok (.iload_n 0, 1) := by decide +kernel
theorem dJ6_bitCount_0f7a4_11 : decode cJ6_bitCount_0f7a4 11 = .ok (.ldc_w 266, 3) := by decide +kernel
theorem dJ6_bitCount_0f7a4_14 : decode cJ6_bitCount_0f7a4 14 = .ok (.iand, 1) := by decide +kernel
theorem dJ6_bitCount_0f7a4_15 : decode cJ6_bitCount_0f7a4 15 = .ok (.iload_n 0, 1) := by decide +kernel
theorem dJ6_bitCount_0f7a4_16 : decode cJ6_bitCount_0f7a4 16 = .ok (.iconst 2, 1) := by decide +kernel
theorem dJ6_bitCount_0f7a4_17 : decode cJ6_bitCount_0f7a4 17 = .ok (.iushr, 1) := by decide +kernel
theorem dJ6_bitCount_0f7a4_18 : decode cJ6_bitCount_0f7a4 18 = .ok (.ldc_w 266, 3) := by decide +kernel
theorem dJ6_bitCount_0f7a4_21 : decode cJ6_bitCount_0f7a4 21 = .ok (.iand, 1) := by decide +kernel
theorem dJ6_bitCount_0f7a4_22 : decode cJ6_bitCount_0f7a4 22 = .ok (.iadd, 1) := by decide +kernel
theorem dJ6_bitCount_0f7a4_23 : decode cJ6_bitCount_0f7a4 23 = .ok (.istore_n 0, 1) := by decide +kernel
theorem dJ6_bitCount_0f7a4_24 : decode cJ6_bitCount_0f7a4 24 = .ok (.iload_n 0, 1) := by decide +kernel
theorem dJ6_bitCount_0f7a4_25 : decode cJ6_bitCount_0f7a4 25 = .ok (.iload_n 0, 1) := by decide +kernel
theorem dJ6_bitCount_0f7a4_26 : decode cJ6_bitCount_0f7a4 26 = .ok (.iconst 4, 1) := by decide +kernel
theorem dJ6_bitCount_0f7a4_27 : decode cJ6_bitCount_0f7a4 27 = .ok (.iushr, 1) := by decide +kernel
theorem dJ6_bitCount_0f7a4_28 : decode cJ6_bitCount_0f7a4 28 = .ok (.iadd, 1) := by decide +kernel
theorem dJ6_bitCount_0f7a4_29 : decode cJ6_bitCount_0f7a4 29 = .ok (.ldc_w 267, 3) := by decide +kernel
theorem dJ6_bitCount_0f7a4_32 : decode cJ6_bitCount_0f7a4 32 = .ok (.iand, 1) := by decide +kernel
theorem dJ6_bitCount_0f7a4_33 : decode cJ6_bitCount_0f7a4 33 = .ok (.istore_n 0, 1) := by decide +kernel
theorem dJ6_bitCount_0f7a4_34 : decode cJ6_bitCount_0f7a4 34 = .ok (.iload_n 0, 1) := by decide +kernel
theorem dJ6_bitCount_0f7a4_35 : decode cJ6_bitCount_0f7a4 35 = .ok (.iload_n 0, 1) := by decide +kernel
theorem dJ6_bitCount_0f7a4_36 : decode cJ6_bitCount_0f7a4 36 = .ok (.bipush 8, 2) := by decide +kernel
theorem dJ6_bitCount_0f7a4_38 : decode cJ6_bitCount_0f7a4 38 = .ok (.iushr, 1) := by decide +kernel
theorem dJ6_bitCount_0f7a4_39 : decode cJ6_bitCount_0f7a4 39 = .ok (.iadd, 1) := by decide +kernel
theorem dJ6_bitCount_0f7a4_40 : decode cJ6_bitCount_0f7a4 40 = .ok (.istore_n 0, 1) := by decide +kernel
theorem dJ6_bitCount_0f7a4_41 : decode cJ6_bitCount_0f7a4 41 = .ok (.iload_n 0, 1) := by decide +kernel
theorem dJ6_bitCount_0f7a4_42 : decode cJ6_bitCount_0f7a4 42 = .ok (.iload_n 0, 1) := by decide +kernel
theorem dJ6_bitCount_0f7a4_43 : decode cJ6_bitCount_0f7a4 43 = .ok (.bipush 16, 2) := by decide +kernel
theorem dJ6_bitCount_0f7a4_45 : decode cJ6_bitCount_0f7a4 45 = .ok (.iushr, 1) := by decide +kernel
theorem dJ6_bitCount_0f7a4_46 : decode cJ6_bitCount_0f7a4 46 = .ok (.iadd, 1) := by decide +kernel
theorem dJ6_bitCount_0f7a4_47 : decode cJ6_bitCount_0f7a4 47 = .ok (.istore_n 0, 1) := by decide +kernel
theorem dJ6_bitCount_0f7a4_48 : decode cJ6_bitCount_0f7a4 48 = .ok (.iload_n 0, 1) := by decide +kernel
theorem dJ6_bitCount_0f7a4_49 : decode cJ6_bitCount_0f7a4 49 = .ok (.bipush 63, 2) := by decide +kernel
theorem dJ6_bitCount_0f7a4_51 : decode cJ6_bitCount_0f7a4 51 = .ok (.iand, 1) := by decide +kernel
theorem dJ6_bitCount_0f7a4_52 : decode cJ6_bitCount_0f7a4 52 = .ok (.ireturn, 1) := by decide +kernel
theorem dJ9_max_7cf53_0 : decode cJ9_max_7cf53 0 = .ok (.iload_n 0, 1) := by decide +kernel
theorem dJ9_max_7cf53_1 : decode cJ9_max_7cf53 1 = .ok (.iload_n 1, 1) := by decide +kernel
theorem dJ9_max_7cf53_2 : decode cJ9_max_7cf53 2 = .ok (.if_icmp .lt 7, 3) := by decide +kernel
theorem dJ9_max_7cf53_5 : decode cJ9_max_7cf53 5 = .ok (.iload_n 0, 1) := by decide +kernel
theorem dJ9_max_7cf53_6 : decode cJ9_max_7cf53 6 = .ok (.goto 4, 3) := by decide +kernel
theorem dJ9_max_7cf53_9 : decode cJ9_max_7cf53 9 = .ok (.iload_n 1, 1) := by decide +kernel
theorem dJ9_max_7cf53_10 : decode cJ9_max_7cf53 10 = .ok (.ireturn, 1) := by decide +kernel
theorem dJ9_min_7cf53_0 : decode cJ9_min_7cf53 0 = .ok (.iload_n 0, 1) := by decide +kernel
theorem dJ9_min_7cf53_1 : decode cJ9_min_7cf53 1 = .ok (.iload_n 1, 1) := by decide +kernel
theorem dJ9_min_7cf53_2 : decode cJ9_min_7cf53 2 = .ok (.if_icmp .gt 7, 3) := by decide +kernel
theorem dJ9_min_7cf53_5 : decode cJ9_min_7cf53 5 = .ok (.iload_n 0, 1) := by decide +kernel
theorem dJ9_min_7cf53_6 : decode cJ9_min_7cf53 6 = .ok (.goto 4, 3) := by decide +kernel
theorem dJ9_min_7cf53_9 : decode cJ9_min_7cf53 9 = .ok (.iload_n 1, 1) := by decide +kernel
theorem dJ9_min_7cf53_10 : decode cJ9_min_7cf53 10 = .ok (.ireturn, 1) := by decide +kernel
theorem dJ7_fill_53178_0 : decode cJ7_fill_53178 0 = .ok (.iconst 0, 1) := by decide +kernel
theorem dJ7_fill_53178_1 : decode cJ7_fill_53178 1 = .ok (.istore_n 2, 1) := by decide +kernel
theorem dJ7_fill_53178_2 : decode cJ7_fill_53178 2 = .ok (.aload_n 0, 1) := by decide +kernel
theorem dJ7_fill_53178_3 : decode cJ7_fill_53178 3 = .ok (.arraylength, 1) := by decide +kernel
theorem dJ7_fill_53178_4 : decode cJ7_fill_53178 4 = .ok (.istore_n 3, 1) := by decide +kernel
theorem dJ7_fill_53178_5 : decode cJ7_fill_53178 5 = .ok (.iload_n 2, 1) := by decide +kernel
theorem dJ7_fill_53178_6 : decode cJ7_fill_53178 6 = .ok (.iload_n 3, 1) := by decide +kernel
theorem dJ7_fill_53178_7 : decode cJ7_fill_53178 7 = .ok (.if_icmp .ge 13, 3) := by decide +kernel
theorem dJ7_fill_53178_10 : decode cJ7_fill_53178 10 = .ok (.aload_n 0, 1) := by decide +kernel
theorem dJ7_fill_53178_11 : decode cJ7_fill_53178 11 = .ok (.iload_n 2, 1) := by decide +kernel
theorem dJ7_fill_53178_12 : decode cJ7_fill_53178 12 = .ok (.iload_n 1, 1) := by decide +kernel
theorem dJ7_fill_53178_13 : decode cJ7_fill_53178 13 = .ok (.iastore, 1) := by decide +kernel
theorem dJ7_fill_53178_14 : decode cJ7_fill_53178 14 = .ok (.iinc 2 1, 3) := by decide +kernel
theorem dJ7_fill_53178_17 : decode cJ7_fill_53178 17 = .ok (.goto (-12), 3) := by decide +kernel
theorem dJ7_fill_53178_20 : decode cJ7_fill_53178 20 = .ok (.return_, 1) := by decide +kernel
theorem dJ7_copyOf_59c91_0 : decode cJ7_copyOf_59c91 0 = .ok (.iload_n 1, 1) := by decide +kernel
theorem dJ7_copyOf_59c91_1 : decode cJ7_copyOf_59c91 1 = .ok (.aload_n 0, 1) := by decide +kernel
theorem dJ7_copyOf_59c91_2 : decode cJ7_copyOf_59c91 2 = .ok (.arraylength, 1) := by decide +kernel
theorem dJ7_copyOf_59c91_3 : decode cJ7_copyOf_59c91 3 = .ok (.if_icmp .ne 11, 3) := by decide +kernel
theorem dJ7_copyOf_59c91_6 : decode cJ7_copyOf_59c91 6 = .ok (.aload_n 0, 1) := by decide +kernel
theorem dJ7_copyOf_59c91_7 : decode cJ7_copyOf_59c91 7 = .ok (.invokevirtual 316, 3) := by decide +kernel
theorem dJ7_copyOf_59c91_10 : decode cJ7_copyOf_59c91 10 = .ok (.checkcast 317, 3) := by decide +kernel
theorem dJ7_copyOf_59c91_13 : decode cJ7_copyOf_59c91 13 = .ok (.areturn, 1) := by decide +kernel
theorem dJ7_copyOf_59c91_14 : decode cJ7_copyOf_59c91 14 = .ok (.iload_n 1, 1) := by decide +kernel
theorem dJ7_copyOf_59c91_15 : decode cJ7_copyOf_59c91 15 = .ok (.newarray .int, 2) := by decide +kernel
theorem dJ7_copyOf_59c91_17 : decode cJ7_copyOf_59c91 17 = .ok (.astore_n 2, 1) := by decide +kernel
theorem dJ7_copyOf_59c91_18 : decode cJ7_copyOf_59c91 18 = .ok (.aload_n 0, 1) := by decide +kernel
theorem dJ7_copyOf_59c91_19 : decode cJ7_copyOf_59c91 19 = .ok (.iconst 0, 1) := by decide +kernel
theorem dJ7_copyOf_59c91_20 : decode cJ7_copyOf_59c91 20 = .ok (.aload_n 2, 1) := by decide +kernel
theorem dJ7_copyOf_59c91_21 : decode cJ7_copyOf_59c91 21 = .ok (.iconst 0, 1) := by decide +kernel
theorem dJ7_copyOf_59c91_22 : decode cJ7_copyOf_59c91 22 = .ok (.aload_n 0, 1) := by decide +kernel
theorem dJ7_copyOf_59c91_23 : decode cJ7_copyOf_59c91 23 = .ok (.arraylength, 1) := by decide +kernel
theorem dJ7_copyOf_59c91_24 : decode cJ7_copyOf_59c91 24 = .ok (.iload_n 1, 1) := by decide +kernel
theorem dJ7_copyOf_59c91_25 : decode cJ7_copyOf_59c91 25 = .ok (.invokestatic 304, 3) := by decide +kernel
theorem dJ7_copyOf_59c91_28 : decode cJ7_copyOf_59c91 28 = .ok (.invokestatic 150, 3) := by decide +kernel
theorem dJ7_copyOf_59c91_31 : decode cJ7_copyOf_59c91 31 = .ok (.aload_n 2, 1) := by decide +kernel
theorem dJ7_copyOf_59c91_32 : decode cJ7_copyOf_59c91 32 = .ok (.areturn, 1) := by decide +kernel
theorem dL_law_0 : decode cL_law 0 = .ok (.new 7, 3) := by decide +kernel
theorem dL_law_3 : decode cL_law 3 = .ok (.dup, 1) := by decide +kernel
theorem dL_law_4 : decode cL_law 4 = .ok (.invokespecial 9, 3) := by decide +kernel
theorem dL_law_7 : decode cL_law 7 = .ok (.astore_n 1, 1) := by decide +kernel
theorem dL_law_8 : decode cL_law 8 = .ok (.new 10, 3) := by decide +kernel
theorem dL_law_11 : decode cL_law 11 = .ok (.dup, 1) := by decide +kernel
theorem dL_law_12 : decode cL_law 12 = .ok (.invokespecial 12, 3) := by decide +kernel
theorem dL_law_15 : decode cL_law 15 = .ok (.astore_n 2, 1) := by decide +kernel
theorem dL_law_16 : decode cL_law 16 = .ok (.iconst 0, 1) := by decide +kernel
theorem dL_law_17 : decode cL_law 17 = .ok (.istore_n 3, 1) := by decide +kernel
theorem dL_law_18 : decode cL_law 18 = .ok (.iload_n 3, 1) := by decide +kernel
theorem dL_law_19 : decode cL_law 19 = .ok (.aload_n 0, 1) := by decide +kernel
theorem dL_law_20 : decode cL_law 20 = .ok (.arraylength, 1) := by decide +kernel
theorem dL_law_21 : decode cL_law 21 = .ok (.bipush 6, 2) := by decide +kernel
theorem dL_law_23 : decode cL_law 23 = .ok (.isub, 1) := by decide +kernel
theorem dL_law_24 : decode cL_law 24 = .ok (.if_icmp .gt 998, 3) := by decide +kernel
theorem dL_law_27 : decode cL_law 27 = .ok (.aload_n 0, 1) := by decide +kernel
theorem dL_law_28 : decode cL_law 28 = .ok (.iload_n 3, 1) := by decide +kernel
theorem dL_law_29 : decode cL_law 29 = .ok (.iaload, 1) := by decide +kernel
theorem dL_law_30 : decode cL_law 30 = .ok (.bipush 31, 2) := by decide +kernel
theorem dL_law_32 : decode cL_law 32 = .ok (.iand, 1) := by decide +kernel
theorem dL_law_33 : decode cL_law 33 = .ok (.tableswitch 983 0 29 #[135, 178, 221, 254, 287, 300, 323, 346, 409, 432, 445, 458, 491, 514, 527, 550, 583, 616, 649, 682, 735, 768, 791, 824, 847, 880, 891, 914, 927, 960], 135) := by decide +kernel
theorem dL_law_168 : decode cL_law 168 = .ok (.aload_n 1, 1) := by decide +kernel
theorem dL_law_169 : decode cL_law 169 = .ok (.aload_n 0, 1) := by decide +kernel
theorem dL_law_170 : decode cL_law 170 = .ok (.iload_n 3, 1) := by decide +kernel
theorem dL_law_171 : decode cL_law 171 = .ok (.iconst 1, 1) := by decide +kernel
theorem dL_law_172 : decode cL_law 172 = .ok (.iadd, 1) := by decide +kernel
theorem dL_law_173 : decode cL_law 173 = .ok (.iaload, 1) := by decide +kernel
theorem dL_law_174 : decode cL_law 174 = .ok (.aload_n 0, 1) := by decide +kernel
theorem dL_law_175 : decode cL_law 175 = .ok (.iload_n 3, 1) := by decide +kernel
theorem dL_law_176 : decode cL_law 176 = .ok (.iconst 2, 1) := by decide +kernel
theorem dL_law_177 : decode cL_law 177 = .ok (.iadd, 1) := by decide +kernel
theorem dL_law_178 : decode cL_law 178 = .ok (.iaload, 1) := by decide +kernel
theorem dL_law_179 : decode cL_law 179 = .ok (.aload_n 0, 1) := by decide +kernel
theorem dL_law_180 : decode cL_law 180 = .ok (.iload_n 3, 1) := by decide +kernel
theorem dL_law_181 : decode cL_law 181 = .ok (.iconst 3, 1) := by decide +kernel
theorem dL_law_182 : decode cL_law 182 = .ok (.iadd, 1) := by decide +kernel
theorem dL_law_183 : decode cL_law 183 = .ok (.iaload, 1) := by decide +kernel
theorem dL_law_184 : decode cL_law 184 = .ok (.invokevirtual 13, 3) := by decide +kernel
theorem dL_law_187 : decode cL_law 187 = .ok (.aload_n 2, 1) := by decide +kernel
theorem dL_law_188 : decode cL_law 188 = .ok (.aload_n 0, 1) := by decide +kernel
theorem dL_law_189 : decode cL_law 189 = .ok (.iload_n 3, 1) := by decide +kernel
theorem dL_law_190 : decode cL_law 190 = .ok (.iconst 1, 1) := by decide +kernel
theorem dL_law_191 : decode cL_law 191 = .ok (.iadd, 1) := by decide +kernel
theorem dL_law_192 : decode cL_law 192 = .ok (.iaload, 1) := by decide +kernel
theorem dL_law_193 : decode cL_law 193 = .ok (.aload_n 0, 1) := by decide +kernel
theorem dL_law_194 : decode cL_law 194 = .ok (.iload_n 3, 1) := by decide +kernel
theorem dL_law_195 : decode cL_law 195 = .ok (.iconst 2, 1) := by decide +kernel
theorem dL_law_196 : decode cL_law 196 = .ok (.iadd, 1) := by decide +kernel
theorem dL_law_197 : decode cL_law 197 = .ok (.iaload, 1) := by decide +kernel
theorem dL_law_198 : decode cL_law 198 = .ok (.aload_n 0, 1) := by decide +kernel
theorem dL_law_199 : decode cL_law 199 = .ok (.iload_n 3, 1) := by decide +kernel
theorem dL_law_200 : decode cL_law 200 = .ok (.iconst 3, 1) := by decide +kernel
theorem dL_law_201 : decode cL_law 201 = .ok (.iadd, 1) := by decide +kernel
theorem dL_law_202 : decode cL_law 202 = .ok (.iaload, 1) := by decide +kernel
theorem dL_law_203 : decode cL_law 203 = .ok (.invokevirtual 17, 3) := by decide +kernel
theorem dL_law_206 : decode cL_law 206 = .ok (.if_icmp .eq 810, 3) := by decide +kernel
theorem dL_law_209 : decode cL_law 209 = .ok (.iconst 0, 1) := by decide +kernel
theorem dL_law_210 : decode cL_law 210 = .ok (.ireturn, 1) := by decide +kernel
theorem dL_law_211 : decode cL_law 211 = .ok (.aload_n 1, 1) := by decide +kernel
theorem dL_law_212 : decode cL_law 212 = .ok (.aload_n 0, 1) := by decide +kernel
theorem dL_law_213 : decode cL_law 213 = .ok (.iload_n 3, 1) := by decide +kernel
theorem dL_law_214 : decode cL_law 214 = .ok (.iconst 1, 1) := by decide +kernel
theorem dL_law_215 : decode cL_law 215 = .ok (.iadd, 1) := by decide +kernel
theorem dL_law_216 : decode cL_law 216 = .ok (.iaload, 1) := by decide +kernel
theorem dL_law_217 : decode cL_law 217 = .ok (.aload_n 0, 1) := by decide +kernel
theorem dL_law_218 : decode cL_law 218 = .ok (.iload_n 3, 1) := by decide +kernel
theorem dL_law_219 : decode cL_law 219 = .ok (.iconst 2, 1) := by decide +kernel
theorem dL_law_220 : decode cL_law 220 = .ok (.iadd, 1) := by decide +kernel
theorem dL_law_221 : decode cL_law 221 = .ok (.iaload, 1) := by decide +kernel
theorem dL_law_222 : decode cL_law 222 = .ok (.aload_n 0, 1) := by decide +kernel
theorem dL_law_223 : decode cL_law 223 = .ok (.iload_n 3, 1) := by decide +kernel
theorem dL_law_224 : decode cL_law 224 = .ok (.iconst 3, 1) := by decide +kernel
theorem dL_law_225 : decode cL_law 225 = .ok (.iadd, 1) := by decide +kernel
theorem dL_law_226 : decode cL_law 226 = .ok (.iaload, 1) := by decide +kernel
theorem dL_law_227 : decode cL_law 227 = .ok (.invokevirtual 18, 3) := by decide +kernel
theorem dL_law_230 : decode cL_law 230 = .ok (.aload_n 2, 1) := by decide +kernel
theorem dL_law_231 : decode cL_law 231 = .ok (.aload_n 0, 1) := by decide +kernel
theorem dL_law_232 : decode cL_law 232 = .ok (.iload_n 3, 1) := by decide +kernel
theorem dL_law_233 : decode cL_law 233 = .ok (.iconst 1, 1) := by decide +kernel
theorem dL_law_234 : decode cL_law 234 = .ok (.iadd, 1) := by decide +kernel
theorem dL_law_235 : decode cL_law 235 = .ok (.iaload, 1) := by decide +kernel
theorem dL_law_236 : decode cL_law 236 = .ok (.aload_n 0, 1) := by decide +kernel
theorem dL_law_237 : decode cL_law 237 = .ok (.iload_n 3, 1) := by decide +kernel
theorem dL_law_238 : decode cL_law 238 = .ok (.iconst 2, 1) := by decide +kernel
theorem dL_law_239 : decode cL_law 239 = .ok (.iadd, 1) := by decide +kernel
theorem dL_law_240 : decode cL_law 240 = .ok (.iaload, 1) := by decide +kernel
theorem dL_law_241 : decode cL_law 241 = .ok (.aload_n 0, 1) := by decide +kernel
theorem dL_law_242 : decode cL_law 242 = .ok (.iload_n 3, 1) := by decide +kernel
theorem dL_law_243 : decode cL_law 243 = .ok (.iconst 3, 1) := by decide +kernel
theorem dL_law_244 : decode cL_law 244 = .ok (.iadd, 1) := by decide +kernel
theorem dL_law_245 : decode cL_law 245 = .ok (.iaload, 1) := by decide +kernel
theorem dL_law_246 : decode cL_law 246 = .ok (.invokevirtual 22, 3) := by decide +kernel
theorem dL_law_249 : decode cL_law 249 = .ok (.if_icmp .eq 767, 3) := by decide +kernel
theorem dL_law_252 : decode cL_law 252 = .ok (.iconst 0, 1) := by decide +kernel
theorem dL_law_253 : decode cL_law 253 = .ok (.ireturn, 1) := by decide +kernel
theorem dL_law_254 : decode cL_law 254 = .ok (.aload_n 1, 1) := by decide +kernel
theorem dL_law_255 : decode cL_law 255 = .ok (.aload_n 0, 1) := by decide +kernel
theorem dL_law_256 : decode cL_law 256 = .ok (.iload_n 3, 1) := by decide +kernel
theorem dL_law_257 : decode cL_law 257 = .ok (.iconst 1, 1) := by decide +kernel
theorem dL_law_258 : decode cL_law 258 = .ok (.iadd, 1) := by decide +kernel
theorem dL_law_259 : decode cL_law 259 = .ok (.iaload, 1) := by decide +kernel
theorem dL_law_260 : decode cL_law 260 = .ok (.aload_n 0, 1) := by decide +kernel
theorem dL_law_261 : decode cL_law 261 = .ok (.iload_n 3, 1) := by decide +kernel
theorem dL_law_262 : decode cL_law 262 = .ok (.iconst 2, 1) := by decide +kernel
theorem dL_law_263 : decode cL_law 263 = .ok (.iadd, 1) := by decide +kernel
theorem dL_law_264 : decode cL_law 264 = .ok (.iaload, 1) := by decide +kernel
theorem dL_law_265 : decode cL_law 265 = .ok (.invokevirtual 23, 3) := by decide +kernel
theorem dL_law_268 : decode cL_law 268 = .ok (.aload_n 2, 1) := by decide +kernel
theorem dL_law_269 : decode cL_law 269 = .ok (.aload_n 0, 1) := by decide +kernel
theorem dL_law_270 : decode cL_law 270 = .ok (.iload_n 3, 1) := by decide +kernel
theorem dL_law_271 : decode cL_law 271 = .ok (.iconst 1, 1) := by decide +kernel
theorem dL_law_272 : decode cL_law 272 = .ok (.iadd, 1) := by decide +kernel
theorem dL_law_273 : decode cL_law 273 = .ok (.iaload, 1) := by decide +kernel
theorem dL_law_274 : decode cL_law 274 = .ok (.aload_n 0, 1) := by decide +kernel
theorem dL_law_275 : decode cL_law 275 = .ok (.iload_n 3, 1) := by decide +kernel
theorem dL_law_276 : decode cL_law 276 = .ok (.iconst 2, 1) := by decide +kernel
theorem dL_law_277 : decode cL_law 277 = .ok (.iadd, 1) := by decide +kernel
theorem dL_law_278 : decode cL_law 278 = .ok (.iaload, 1) := by decide +kernel
theorem dL_law_279 : decode cL_law 279 = .ok (.invokevirtual 27, 3) := by decide +kernel
theorem dL_law_282 : decode cL_law 282 = .ok (.if_icmp .eq 734, 3) := by decide +kernel
theorem dL_law_285 : decode cL_law 285 = .ok (.iconst 0, 1) := by decide +kernel
theorem dL_law_286 : decode cL_law 286 = .ok (.ireturn, 1) := by decide +kernel
theorem dL_law_287 : decode cL_law 287 = .ok (.aload_n 1, 1) := by decide +kernel
theorem dL_law_288 : decode cL_law 288 = .ok (.aload_n 0, 1) := by decide +kernel
theorem dL_law_289 : decode cL_law 289 = .ok (.iload_n 3, 1) := by decide +kernel
theorem dL_law_290 : decode cL_law 290 = .ok (.iconst 1, 1) := by decide +kernel
theorem dL_law_291 : decode cL_law 291 = .ok (.iadd, 1) := by decide +kernel
theorem dL_law_292 : decode cL_law 292 = .ok (.iaload, 1) := by decide +kernel
theorem dL_law_293 : decode cL_law 293 = .ok (.aload_n 0, 1) := by decide +kernel
theorem dL_law_294 : decode cL_law 294 = .ok (.iload_n 3, 1) := by decide +kernel
theorem dL_law_295 : decode cL_law 295 = .ok (.iconst 2, 1) := by decide +kernel
theorem dL_law_296 : decode cL_law 296 = .ok (.iadd, 1) := by decide +kernel
theorem dL_law_297 : decode cL_law 297 = .ok (.iaload, 1) := by decide +kernel
theorem dL_law_298 : decode cL_law 298 = .ok (.invokevirtual 28, 3) := by decide +kernel
theorem dL_law_301 : decode cL_law 301 = .ok (.aload_n 2, 1) := by decide +kernel
theorem dL_law_302 : decode cL_law 302 = .ok (.aload_n 0, 1) := by decide +kernel
theorem dL_law_303 : decode cL_law 303 = .ok (.iload_n 3, 1) := by decide +kernel
theorem dL_law_304 : decode cL_law 304 = .ok (.iconst 1, 1) := by decide +kernel
theorem dL_law_305 : decode cL_law 305 = .ok (.iadd, 1) := by decide +kernel
theorem dL_law_306 : decode cL_law 306 = .ok (.iaload, 1) := by decide +kernel
theorem dL_law_307 : decode cL_law 307 = .ok (.aload_n 0, 1) := by decide +kernel
theorem dL_law_308 : decode cL_law 308 = .ok (.iload_n 3, 1) := by decide +kernel
theorem dL_law_309 : decode cL_law 309 = .ok (.iconst 2, 1) := by decide +kernel
theorem dL_law_310 : decode cL_law 310 = .ok (.iadd, 1) := by decide +kernel
theorem dL_law_311 : decode cL_law 311 = .ok (.iaload, 1) := by decide +kernel
theorem dL_law_312 : decode cL_law 312 = .ok (.invokevirtual 31, 3) := by decide +kernel
theorem dL_law_315 : decode cL_law 315 = .ok (.if_icmp .eq 701, 3) := by decide +kernel
theorem dL_law_318 : decode cL_law 318 = .ok (.iconst 0, 1) := by decide +kernel
theorem dL_law_319 : decode cL_law 319 = .ok (.ireturn, 1) := by decide +kernel
theorem dL_law_320 : decode cL_law 320 = .ok (.aload_n 1, 1) := by decide +kernel
theorem dL_law_321 : decode cL_law 321 = .ok (.invokevirtual 32, 3) := by decide +kernel
theorem dL_law_324 : decode cL_law 324 = .ok (.aload_n 2, 1) := by decide +kernel
theorem dL_law_325 : decode cL_law 325 = .ok (.invokevirtual 36, 3) := by decide +kernel
theorem dL_law_328 : decode cL_law 328 = .ok (.if_icmp .eq 688, 3) := by decide +kernel
theorem dL_law_331 : decode cL_law 331 = .ok (.iconst 0, 1) := by decide +kernel
theorem dL_law_332 : decode cL_law 332 = .ok (.ireturn, 1) := by decide +kernel
theorem dL_law_333 : decode cL_law 333 = .ok (.aload_n 1, 1) := by decide +kernel
theorem dL_law_334 : decode cL_law 334 = .ok (.aload_n 0, 1) := by decide +kernel
theorem dL_law_335 : decode cL_law 335 = .ok (.iload_n 3, 1) := by decide +kernel
theorem dL_law_336 : decode cL_law 336 = .ok (.iconst 1, 1) := by decide +kernel
theorem dL_law_337 : decode cL_law 337 = .ok (.iadd, 1) := by decide +kernel
theorem dL_law_338 : decode cL_law 338 = .ok (.iaload, 1) := by decide +kernel
theorem dL_law_339 : decode cL_law 339 = .ok (.invokevirtual 37, 3) := by decide +kernel
theorem dL_law_342 : decode cL_law 342 = .ok (.aload_n 2, 1) := by decide +kernel
theorem dL_law_343 : decode cL_law 343 = .ok (.aload_n 0, 1) := by decide +kernel
theorem dL_law_344 : decode cL_law 344 = .ok (.iload_n 3, 1) := by decide +kernel
theorem dL_law_345 : decode cL_law 345 = .ok (.iconst 1, 1) := by decide +kernel
theorem dL_law_346 : decode cL_law 346 = .ok (.iadd, 1) := by decide +kernel
theorem dL_law_347 : decode cL_law 347 = .ok (.iaload, 1) := by decide +kernel
theorem dL_law_348 : decode cL_law 348 = .ok (.invokevirtual 41, 3) := by decide +kernel
theorem dL_law_351 : decode cL_law 351 = .ok (.if_icmp .eq 665, 3) := by decide +kernel
theorem dL_law_354 : decode cL_law 354 = .ok (.iconst 0, 1) := by decide +kernel
theorem dL_law_355 : decode cL_law 355 = .ok (.ireturn, 1) := by decide +kernel
theorem dL_law_356 : decode cL_law 356 = .ok (.aload_n 1, 1) := by decide +kernel
theorem dL_law_357 : decode cL_law 357 = .ok (.aload_n 0, 1) := by decide +kernel
theorem dL_law_358 : decode cL_law 358 = .ok (.iload_n 3, 1) := by decide +kernel
theorem dL_law_359 : decode cL_law 359 = .ok (.iconst 1, 1) := by decide +kernel
theorem dL_law_360 : decode cL_law 360 = .ok (.iadd, 1) := by decide +kernel
theorem dL_law_361 : decode cL_law 361 = .ok (.iaload, 1) := by decide +kernel
theorem dL_law_362 : decode cL_law 362 = .ok (.invokevirtual 42, 3) := by decide +kernel
theorem dL_law_365 : decode cL_law 365 = .ok (.aload_n 2, 1) := by decide +kernel
theorem dL_law_366 : decode cL_law 366 = .ok (.aload_n 0, 1) := by decide +kernel
theorem dL_law_367 : decode cL_law 367 = .ok (.iload_n 3, 1) := by decide +kernel
theorem dL_law_368 : decode cL_law 368 = .ok (.iconst 1, 1) := by decide +kernel
theorem dL_law_369 : decode cL_law 369 = .ok (.iadd, 1) := by decide +kernel
theorem dL_law_370 : decode cL_law 370 = .ok (.iaload, 1) := by decide +kernel
theorem dL_law_371 : decode cL_law 371 = .ok (.invokevirtual 45, 3) := by decide +kernel
theorem dL_law_374 : decode cL_law 374 = .ok (.if_icmp .eq 642, 3) := by decide +kernel
theorem dL_law_377 : decode cL_law 377 = .ok (.iconst 0, 1) := by decide +kernel
theorem dL_law_378 : decode cL_law 378 = .ok (.ireturn, 1) := by decide +kernel
theorem dL_law_379 : decode cL_law 379 = .ok (.aload_n 1, 1) := by decide +kernel
theorem dL_law_380 : decode cL_law 380 = .ok (.aload_n 0, 1) := by decide +kernel
theorem dL_law_381 : decode cL_law 381 = .ok (.iload_n 3, 1) := by decide +kernel
theorem dL_law_382 : decode cL_law 382 = .ok (.iconst 1, 1) := by decide +kernel
theorem dL_law_383 : decode cL_law 383 = .ok (.iadd, 1) := by decide +kernel
theorem dL_law_384 : decode cL_law 384 = .ok (.iaload, 1) := by decide +kernel
theorem dL_law_385 : decode cL_law 385 = .ok (.aload_n 0, 1) := by decide +kernel
theorem dL_law_386 : decode cL_law 386 = .ok (.iload_n 3, 1) := by decide +kernel
theorem dL_law_387 : decode cL_law 387 = .ok (.iconst 2, 1) := by decide +kernel
theorem dL_law_388 : decode cL_law 388 = .ok (.iadd, 1) := by decide +kernel
theorem dL_law_389 : decode cL_law 389 = .ok (.iaload, 1) := by decide +kernel
theorem dL_law_390 : decode cL_law 390 = .ok (.aload_n 0, 1) := by decide +kernel
theorem dL_law_391 : decode cL_law 391 = .ok (.iload_n 3, 1) := by decide +kernel
theorem dL_law_392 : decode cL_law 392 = .ok (.iconst 3, 1) := by decide +kernel
theorem dL_law_393 : decode cL_law 393 = .ok (.iadd, 1) := by decide +kernel
theorem dL_law_394 : decode cL_law 394 = .ok (.iaload, 1) := by decide +kernel
theorem dL_law_395 : decode cL_law 395 = .ok (.aload_n 0, 1) := by decide +kernel
theorem dL_law_396 : decode cL_law 396 = .ok (.iload_n 3, 1) := by decide +kernel
theorem dL_law_397 : decode cL_law 397 = .ok (.iconst 4, 1) := by decide +kernel
theorem dL_law_398 : decode cL_law 398 = .ok (.iadd, 1) := by decide +kernel
theorem dL_law_399 : decode cL_law 399 = .ok (.iaload, 1) := by decide +kernel
theorem dL_law_400 : decode cL_law 400 = .ok (.aload_n 0, 1) := by decide +kernel
theorem dL_law_401 : decode cL_law 401 = .ok (.iload_n 3, 1) := by decide +kernel
theorem dL_law_402 : decode cL_law 402 = .ok (.iconst 5, 1) := by decide +kernel
theorem dL_law_403 : decode cL_law 403 = .ok (.iadd, 1) := by decide +kernel
theorem dL_law_404 : decode cL_law 404 = .ok (.iaload, 1) := by decide +kernel
theorem dL_law_405 : decode cL_law 405 = .ok (.invokevirtual 46, 3) := by decide +kernel
theorem dL_law_408 : decode cL_law 408 = .ok (.aload_n 2, 1) := by decide +kernel
theorem dL_law_409 : decode cL_law 409 = .ok (.aload_n 0, 1) := by decide +kernel
theorem dL_law_410 : decode cL_law 410 = .ok (.iload_n 3, 1) := by decide +kernel
theorem dL_law_411 : decode cL_law 411 = .ok (.iconst 1, 1) := by decide +kernel
theorem dL_law_412 : decode cL_law 412 = .ok (.iadd, 1) := by decide +kernel
theorem dL_law_413 : decode cL_law 413 = .ok (.iaload, 1) := by decide +kernel
theorem dL_law_414 : decode cL_law 414 = .ok (.aload_n 0, 1) := by decide +kernel
theorem dL_law_415 : decode cL_law 415 = .ok (.iload_n 3, 1) := by decide +kernel
theorem dL_law_416 : decode cL_law 416 = .ok (.iconst 2, 1) := by decide +kernel
theorem dL_law_417 : decode cL_law 417 = .ok (.iadd, 1) := by decide +kernel
theorem dL_law_418 : decode cL_law 418 = .ok (.iaload, 1) := by decide +kernel
theorem dL_law_419 : decode cL_law 419 = .ok (.aload_n 0, 1) := by decide +kernel
theorem dL_law_420 : decode cL_law 420 = .ok (.iload_n 3, 1) := by decide +kernel
theorem dL_law_421 : decode cL_law 421 = .ok (.iconst 3, 1) := by decide +kernel
theorem dL_law_422 : decode cL_law 422 = .ok (.iadd, 1) := by decide +kernel
theorem dL_law_423 : decode cL_law 423 = .ok (.iaload, 1) := by decide +kernel
theorem dL_law_424 : decode cL_law 424 = .ok (.aload_n 0, 1) := by decide +kernel
theorem dL_law_425 : decode cL_law 425 = .ok (.iload_n 3, 1) := by decide +kernel
theorem dL_law_426 : decode cL_law 426 = .ok (.iconst 4, 1) := by decide +kernel
theorem dL_law_427 : decode cL_law 427 = .ok (.iadd, 1) := by decide +kernel
theorem dL_law_428 : decode cL_law 428 = .ok (.iaload, 1) := by decide +kernel
theorem dL_law_429 : decode cL_law 429 = .ok (.aload_n 0, 1) := by decide +kernel
theorem dL_law_430 : decode cL_law 430 = .ok (.iload_n 3, 1) := by decide +kernel
theorem dL_law_431 : decode cL_law 431 = .ok (.iconst 5, 1) := by decide +kernel
theorem dL_law_432 : decode cL_law 432 = .ok (.iadd, 1) := by decide +kernel
theorem dL_law_433 : decode cL_law 433 = .ok (.iaload, 1) := by decide +kernel
theorem dL_law_434 : decode cL_law 434 = .ok (.invokevirtual 50, 3) := by decide +kernel
theorem dL_law_437 : decode cL_law 437 = .ok (.if_icmp .eq 579, 3) := by decide +kernel
theorem dL_law_440 : decode cL_law 440 = .ok (.iconst 0, 1) := by decide +kernel
theorem dL_law_441 : decode cL_law 441 = .ok (.ireturn, 1) := by decide +kernel
theorem dL_law_442 : decode cL_law 442 = .ok (.aload_n 1, 1) := by decide +kernel
theorem dL_law_443 : decode cL_law 443 = .ok (.aload_n 0, 1) := by decide +kernel
theorem dL_law_444 : decode cL_law 444 = .ok (.iload_n 3, 1) := by decide +kernel
theorem dL_law_445 : decode cL_law 445 = .ok (.iconst 1, 1) := by decide +kernel
theorem dL_law_446 : decode cL_law 446 = .ok (.iadd, 1) := by decide +kernel
theorem dL_law_447 : decode cL_law 447 = .ok (.iaload, 1) := by decide +kernel
theorem dL_law_448 : decode cL_law 448 = .ok (.invokevirtual 51, 3) := by decide +kernel
theorem dL_law_451 : decode cL_law 451 = .ok (.aload_n 2, 1) := by decide +kernel
theorem dL_law_452 : decode cL_law 452 = .ok (.aload_n 0, 1) := by decide +kernel
theorem dL_law_453 : decode cL_law 453 = .ok (.iload_n 3, 1) := by decide +kernel
theorem dL_law_454 : decode cL_law 454 = .ok (.iconst 1, 1) := by decide +kernel
theorem dL_law_455 : decode cL_law 455 = .ok (.iadd, 1) := by decide +kernel
theorem dL_law_456 : decode cL_law 456 = .ok (.iaload, 1) := by decide +kernel
theorem dL_law_457 : decode cL_law 457 = .ok (.invokevirtual 54, 3) := by decide +kernel
theorem dL_law_460 : decode cL_law 460 = .ok (.if_icmp .eq 556, 3) := by decide +kernel
theorem dL_law_463 : decode cL_law 463 = .ok (.iconst 0, 1) := by decide +kernel
theorem dL_law_464 : decode cL_law 464 = .ok (.ireturn, 1) := by decide +kernel
theorem dL_law_465 : decode cL_law 465 = .ok (.aload_n 1, 1) := by decide +kernel
theorem dL_law_466 : decode cL_law 466 = .ok (.invokevirtual 55, 3) := by decide +kernel
theorem dL_law_469 : decode cL_law 469 = .ok (.aload_n 2, 1) := by decide +kernel
theorem dL_law_470 : decode cL_law 470 = .ok (.invokevirtual 58, 3) := by decide +kernel
theorem dL_law_473 : decode cL_law 473 = .ok (.if_icmp .eq 543, 3) := by decide +kernel
theorem dL_law_476 : decode cL_law 476 = .ok (.iconst 0, 1) := by decide +kernel
theorem dL_law_477 : decode cL_law 477 = .ok (.ireturn, 1) := by decide +kernel
theorem dL_law_478 : decode cL_law 478 = .ok (.aload_n 1, 1) := by decide +kernel
theorem dL_law_479 : decode cL_law 479 = .ok (.invokevirtual 59, 3) := by decide +kernel
theorem dL_law_482 : decode cL_law 482 = .ok (.aload_n 2, 1) := by decide +kernel
theorem dL_law_483 : decode cL_law 483 = .ok (.invokevirtual 63, 3) := by decide +kernel
theorem dL_law_486 : decode cL_law 486 = .ok (.if_icmp .eq 530, 3) := by decide +kernel
theorem dL_law_489 : decode cL_law 489 = .ok (.iconst 0, 1) := by decide +kernel
theorem dL_law_490 : decode cL_law 490 = .ok (.ireturn, 1) := by decide +kernel
theorem dL_law_491 : decode cL_law 491 = .ok (.aload_n 1, 1) := by decide +kernel
theorem dL_law_492 : decode cL_law 492 = .ok (.aload_n 0, 1) := by decide +kernel
theorem dL_law_493 : decode cL_law 493 = .ok (.iload_n 3, 1) := by decide +kernel
theorem dL_law_494 : decode cL_law 494 = .ok (.iconst 1, 1) := by decide +kernel
theorem dL_law_495 : decode cL_law 495 = .ok (.iadd, 1) := by decide +kernel
theorem dL_law_496 : decode cL_law 496 = .ok (.iaload, 1) := by decide +kernel
theorem dL_law_497 : decode cL_law 497 = .ok (.aload_n 0, 1) := by decide +kernel
theorem dL_law_498 : decode cL_law 498 = .ok (.iload_n 3, 1) := by decide +kernel
theorem dL_law_499 : decode cL_law 499 = .ok (.iconst 2, 1) := by decide +kernel
theorem dL_law_500 : decode cL_law 500 = .ok (.iadd, 1) := by decide +kernel
theorem dL_law_501 : decode cL_law 501 = .ok (.iaload, 1) := by decide +kernel
theorem dL_law_502 : decode cL_law 502 = .ok (.invokevirtual 64, 3) := by decide +kernel
theorem dL_law_505 : decode cL_law 505 = .ok (.aload_n 2, 1) := by decide +kernel
theorem dL_law_506 : decode cL_law 506 = .ok (.aload_n 0, 1) := by decide +kernel
theorem dL_law_507 : decode cL_law 507 = .ok (.iload_n 3, 1) := by decide +kernel
theorem dL_law_508 : decode cL_law 508 = .ok (.iconst 1, 1) := by decide +kernel
theorem dL_law_509 : decode cL_law 509 = .ok (.iadd, 1) := by decide +kernel
theorem dL_law_510 : decode cL_law 510 = .ok (.iaload, 1) := by decide +kernel
theorem dL_law_511 : decode cL_law 511 = .ok (.aload_n 0, 1) := by decide +kernel
theorem dL_law_512 : decode cL_law 512 = .ok (.iload_n 3, 1) := by decide +kernel
theorem dL_law_513 : decode cL_law 513 = .ok (.iconst 2, 1) := by decide +kernel
theorem dL_law_514 : decode cL_law 514 = .ok (.iadd, 1) := by decide +kernel
theorem dL_law_515 : decode cL_law 515 = .ok (.iaload, 1) := by decide +kernel
theorem dL_law_516 : decode cL_law 516 = .ok (.invokevirtual 68, 3) := by decide +kernel
theorem dL_law_519 : decode cL_law 519 = .ok (.if_icmp .eq 497, 3) := by decide +kernel
theorem dL_law_522 : decode cL_law 522 = .ok (.iconst 0, 1) := by decide +kernel
theorem dL_law_523 : decode cL_law 523 = .ok (.ireturn, 1) := by decide +kernel
theorem dL_law_524 : decode cL_law 524 = .ok (.aload_n 1, 1) := by decide +kernel
theorem dL_law_525 : decode cL_law 525 = .ok (.aload_n 0, 1) := by decide +kernel
theorem dL_law_526 : decode cL_law 526 = .ok (.iload_n 3, 1) := by decide +kernel
theorem dL_law_527 : decode cL_law 527 = .ok (.iconst 1, 1) := by decide +kernel
theorem dL_law_528 : decode cL_law 528 = .ok (.iadd, 1) := by decide +kernel
theorem dL_law_529 : decode cL_law 529 = .ok (.iaload, 1) := by decide +kernel
theorem dL_law_530 : decode cL_law 530 = .ok (.invokevirtual 69, 3) := by decide +kernel
theorem dL_law_533 : decode cL_law 533 = .ok (.aload_n 2, 1) := by decide +kernel
theorem dL_law_534 : decode cL_law 534 = .ok (.aload_n 0, 1) := by decide +kernel
theorem dL_law_535 : decode cL_law 535 = .ok (.iload_n 3, 1) := by decide +kernel
theorem dL_law_536 : decode cL_law 536 = .ok (.iconst 1, 1) := by decide +kernel
theorem dL_law_537 : decode cL_law 537 = .ok (.iadd, 1) := by decide +kernel
theorem dL_law_538 : decode cL_law 538 = .ok (.iaload, 1) := by decide +kernel
theorem dL_law_539 : decode cL_law 539 = .ok (.invokevirtual 73, 3) := by decide +kernel
theorem dL_law_542 : decode cL_law 542 = .ok (.if_icmp .eq 474, 3) := by decide +kernel
theorem dL_law_545 : decode cL_law 545 = .ok (.iconst 0, 1) := by decide +kernel
theorem dL_law_546 : decode cL_law 546 = .ok (.ireturn, 1) := by decide +kernel
theorem dL_law_547 : decode cL_law 547 = .ok (.aload_n 1, 1) := by decide +kernel
theorem dL_law_548 : decode cL_law 548 = .ok (.invokevirtual 74, 3) := by decide +kernel
theorem dL_law_551 : decode cL_law 551 = .ok (.aload_n 2, 1) := by decide +kernel
theorem dL_law_552 : decode cL_law 552 = .ok (.invokevirtual 77, 3) := by decide +kernel
theorem dL_law_555 : decode cL_law 555 = .ok (.if_icmp .eq 461, 3) := by decide +kernel
theorem dL_law_558 : decode cL_law 558 = .ok (.iconst 0, 1) := by decide +kernel
theorem dL_law_559 : decode cL_law 559 = .ok (.ireturn, 1) := by decide +kernel
theorem dL_law_560 : decode cL_law 560 = .ok (.aload_n 1, 1) := by decide +kernel
theorem dL_law_561 : decode cL_law 561 = .ok (.aload_n 0, 1) := by decide +kernel
theorem dL_law_562 : decode cL_law 562 = .ok (.iload_n 3, 1) := by decide +kernel
theorem dL_law_563 : decode cL_law 563 = .ok (.iconst 1, 1) := by decide +kernel
theorem dL_law_564 : decode cL_law 564 = .ok (.iadd, 1) := by decide +kernel
theorem dL_law_565 : decode cL_law 565 = .ok (.iaload, 1) := by decide +kernel
theorem dL_law_566 : decode cL_law 566 = .ok (.invokevirtual 78, 3) := by decide +kernel
theorem dL_law_569 : decode cL_law 569 = .ok (.aload_n 2, 1) := by decide +kernel
theorem dL_law_570 : decode cL_law 570 = .ok (.aload_n 0, 1) := by decide +kernel
theorem dL_law_571 : decode cL_law 571 = .ok (.iload_n 3, 1) := by decide +kernel
theorem dL_law_572 : decode cL_law 572 = .ok (.iconst 1, 1) := by decide +kernel
theorem dL_law_573 : decode cL_law 573 = .ok (.iadd, 1) := by decide +kernel
theorem dL_law_574 : decode cL_law 574 = .ok (.iaload, 1) := by decide +kernel
theorem dL_law_575 : decode cL_law 575 = .ok (.invokevirtual 81, 3) := by decide +kernel
theorem dL_law_578 : decode cL_law 578 = .ok (.if_icmp .eq 438, 3) := by decide +kernel
theorem dL_law_581 : decode cL_law 581 = .ok (.iconst 0, 1) := by decide +kernel
theorem dL_law_582 : decode cL_law 582 = .ok (.ireturn, 1) := by decide +kernel
theorem dL_law_583 : decode cL_law 583 = .ok (.aload_n 1, 1) := by decide +kernel
theorem dL_law_584 : decode cL_law 584 = .ok (.aload_n 0, 1) := by decide +kernel
theorem dL_law_585 : decode cL_law 585 = .ok (.iload_n 3, 1) := by decide +kernel
theorem dL_law_586 : decode cL_law 586 = .ok (.iconst 1, 1) := by decide +kernel
theorem dL_law_587 : decode cL_law 587 = .ok (.iadd, 1) := by decide +kernel
theorem dL_law_588 : decode cL_law 588 = .ok (.iaload, 1) := by decide +kernel
theorem dL_law_589 : decode cL_law 589 = .ok (.aload_n 0, 1) := by decide +kernel
theorem dL_law_590 : decode cL_law 590 = .ok (.iload_n 3, 1) := by decide +kernel
theorem dL_law_591 : decode cL_law 591 = .ok (.iconst 2, 1) := by decide +kernel
theorem dL_law_592 : decode cL_law 592 = .ok (.iadd, 1) := by decide +kernel
theorem dL_law_593 : decode cL_law 593 = .ok (.iaload, 1) := by decide +kernel
theorem dL_law_594 : decode cL_law 594 = .ok (.invokevirtual 82, 3) := by decide +kernel
theorem dL_law_597 : decode cL_law 597 = .ok (.aload_n 2, 1) := by decide +kernel
theorem dL_law_598 : decode cL_law 598 = .ok (.aload_n 0, 1) := by decide +kernel
theorem dL_law_599 : decode cL_law 599 = .ok (.iload_n 3, 1) := by decide +kernel
theorem dL_law_600 : decode cL_law 600 = .ok (.iconst 1, 1) := by decide +kernel
theorem dL_law_601 : decode cL_law 601 = .ok (.iadd, 1) := by decide +kernel
theorem dL_law_602 : decode cL_law 602 = .ok (.iaload, 1) := by decide +kernel
theorem dL_law_603 : decode cL_law 603 = .ok (.aload_n 0, 1) := by decide +kernel
theorem dL_law_604 : decode cL_law 604 = .ok (.iload_n 3, 1) := by decide +kernel
theorem dL_law_605 : decode cL_law 605 = .ok (.iconst 2, 1) := by decide +kernel
theorem dL_law_606 : decode cL_law 606 = .ok (.iadd, 1) := by decide +kernel
theorem dL_law_607 : decode cL_law 607 = .ok (.iaload, 1) := by decide +kernel
theorem dL_law_608 : decode cL_law 608 = .ok (.invokevirtual 85, 3) := by decide +kernel
theorem dL_law_611 : decode cL_law 611 = .ok (.if_icmp .eq 405, 3) := by decide +kernel
theorem dL_law_614 : decode cL_law 614 = .ok (.iconst 0, 1) := by decide +kernel
theorem dL_law_615 : decode cL_law 615 = .ok (.ireturn, 1) := by decide +kernel
theorem dL_law_616 : decode cL_law 616 = .ok (.aload_n 1, 1) := by decide +kernel
theorem dL_law_617 : decode cL_law 617 = .ok (.aload_n 0, 1) := by decide +kernel
theorem dL_law_618 : decode cL_law 618 = .ok (.iload_n 3, 1) := by decide +kernel
theorem dL_law_619 : decode cL_law 619 = .ok (.iconst 1, 1) := by decide +kernel
theorem dL_law_620 : decode cL_law 620 = .ok (.iadd, 1) := by decide +kernel
theorem dL_law_621 : decode cL_law 621 = .ok (.iaload, 1) := by decide +kernel
theorem dL_law_622 : decode cL_law 622 = .ok (.aload_n 0, 1) := by decide +kernel
theorem dL_law_623 : decode cL_law 623 = .ok (.iload_n 3, 1) := by decide +kernel
theorem dL_law_624 : decode cL_law 624 = .ok (.iconst 2, 1) := by decide +kernel
theorem dL_law_625 : decode cL_law 625 = .ok (.iadd, 1) := by decide +kernel
theorem dL_law_626 : decode cL_law 626 = .ok (.iaload, 1) := by decide +kernel
theorem dL_law_627 : decode cL_law 627 = .ok (.invokevirtual 86, 3) := by decide +kernel
theorem dL_law_630 : decode cL_law 630 = .ok (.aload_n 2, 1) := by decide +kernel
theorem dL_law_631 : decode cL_law 631 = .ok (.aload_n 0, 1) := by decide +kernel
theorem dL_law_632 : decode cL_law 632 = .ok (.iload_n 3, 1) := by decide +kernel
theorem dL_law_633 : decode cL_law 633 = .ok (.iconst 1, 1) := by decide +kernel
theorem dL_law_634 : decode cL_law 634 = .ok (.iadd, 1) := by decide +kernel
theorem dL_law_635 : decode cL_law 635 = .ok (.iaload, 1) := by decide +kernel
theorem dL_law_636 : decode cL_law 636 = .ok (.aload_n 0, 1) := by decide +kernel
theorem dL_law_637 : decode cL_law 637 = .ok (.iload_n 3, 1) := by decide +kernel
theorem dL_law_638 : decode cL_law 638 = .ok (.iconst 2, 1) := by decide +kernel
theorem dL_law_639 : decode cL_law 639 = .ok (.iadd, 1) := by decide +kernel
theorem dL_law_640 : decode cL_law 640 = .ok (.iaload, 1) := by decide +kernel
theorem dL_law_641 : decode cL_law 641 = .ok (.invokevirtual 89, 3) := by decide +kernel
theorem dL_law_644 : decode cL_law 644 = .ok (.if_icmp .eq 372, 3) := by decide +kernel
theorem dL_law_647 : decode cL_law 647 = .ok (.iconst 0, 1) := by decide +kernel
theorem dL_law_648 : decode cL_law 648 = .ok (.ireturn, 1) := by decide +kernel
theorem dL_law_649 : decode cL_law 649 = .ok (.aload_n 1, 1) := by decide +kernel
theorem dL_law_650 : decode cL_law 650 = .ok (.aload_n 0, 1) := by decide +kernel
theorem dL_law_651 : decode cL_law 651 = .ok (.iload_n 3, 1) := by decide +kernel
theorem dL_law_652 : decode cL_law 652 = .ok (.iconst 1, 1) := by decide +kernel
theorem dL_law_653 : decode cL_law 653 = .ok (.iadd, 1) := by decide +kernel
theorem dL_law_654 : decode cL_law 654 = .ok (.iaload, 1) := by decide +kernel
theorem dL_law_655 : decode cL_law 655 = .ok (.aload_n 0, 1) := by decide +kernel
theorem dL_law_656 : decode cL_law 656 = .ok (.iload_n 3, 1) := by decide +kernel
theorem dL_law_657 : decode cL_law 657 = .ok (.iconst 2, 1) := by decide +kernel
theorem dL_law_658 : decode cL_law 658 = .ok (.iadd, 1) := by decide +kernel
theorem dL_law_659 : decode cL_law 659 = .ok (.iaload, 1) := by decide +kernel
theorem dL_law_660 : decode cL_law 660 = .ok (.invokevirtual 90, 3) := by decide +kernel
theorem dL_law_663 : decode cL_law 663 = .ok (.aload_n 2, 1) := by decide +kernel
theorem dL_law_664 : decode cL_law 664 = .ok (.aload_n 0, 1) := by decide +kernel
theorem dL_law_665 : decode cL_law 665 = .ok (.iload_n 3, 1) := by decide +kernel
theorem dL_law_666 : decode cL_law 666 = .ok (.iconst 1, 1) := by decide +kernel
theorem dL_law_667 : decode cL_law 667 = .ok (.iadd, 1) := by decide +kernel
theorem dL_law_668 : decode cL_law 668 = .ok (.iaload, 1) := by decide +kernel
theorem dL_law_669 : decode cL_law 669 = .ok (.aload_n 0, 1) := by decide +kernel
theorem dL_law_670 : decode cL_law 670 = .ok (.iload_n 3, 1) := by decide +kernel
theorem dL_law_671 : decode cL_law 671 = .ok (.iconst 2, 1) := by decide +kernel
theorem dL_law_672 : decode cL_law 672 = .ok (.iadd, 1) := by decide +kernel
theorem dL_law_673 : decode cL_law 673 = .ok (.iaload, 1) := by decide +kernel
theorem dL_law_674 : decode cL_law 674 = .ok (.invokevirtual 93, 3) := by decide +kernel
theorem dL_law_677 : decode cL_law 677 = .ok (.if_icmp .eq 339, 3) := by decide +kernel
theorem dL_law_680 : decode cL_law 680 = .ok (.iconst 0, 1) := by decide +kernel
theorem dL_law_681 : decode cL_law 681 = .ok (.ireturn, 1) := by decide +kernel
theorem dL_law_682 : decode cL_law 682 = .ok (.aload_n 1, 1) := by decide +kernel
theorem dL_law_683 : decode cL_law 683 = .ok (.aload_n 0, 1) := by decide +kernel
theorem dL_law_684 : decode cL_law 684 = .ok (.iload_n 3, 1) := by decide +kernel
theorem dL_law_685 : decode cL_law 685 = .ok (.iconst 1, 1) := by decide +kernel
theorem dL_law_686 : decode cL_law 686 = .ok (.iadd, 1) := by decide +kernel
theorem dL_law_687 : decode cL_law 687 = .ok (.iaload, 1) := by decide +kernel
theorem dL_law_688 : decode cL_law 688 = .ok (.aload_n 0, 1) := by decide +kernel
theorem dL_law_689 : decode cL_law 689 = .ok (.iload_n 3, 1) := by decide +kernel
theorem dL_law_690 : decode cL_law 690 = .ok (.iconst 2, 1) := by decide +kernel
theorem dL_law_691 : decode cL_law 691 = .ok (.iadd, 1) := by decide +kernel
theorem dL_law_692 : decode cL_law 692 = .ok (.iaload, 1) := by decide +kernel
theorem dL_law_693 : decode cL_law 693 = .ok (.invokevirtual 94, 3) := by decide +kernel
theorem dL_law_696 : decode cL_law 696 = .ok (.aload_n 2, 1) := by decide +kernel
theorem dL_law_697 : decode cL_law 697 = .ok (.aload_n 0, 1) := by decide +kernel
theorem dL_law_698 : decode cL_law 698 = .ok (.iload_n 3, 1) := by decide +kernel
theorem dL_law_699 : decode cL_law 699 = .ok (.iconst 1, 1) := by decide +kernel
theorem dL_law_700 : decode cL_law 700 = .ok (.iadd, 1) := by decide +kernel
theorem dL_law_701 : decode cL_law 701 = .ok (.iaload, 1) := by decide +kernel
theorem dL_law_702 : decode cL_law 702 = .ok (.aload_n 0, 1) := by decide +kernel
theorem dL_law_703 : decode cL_law 703 = .ok (.iload_n 3, 1) := by decide +kernel
theorem dL_law_704 : decode cL_law 704 = .ok (.iconst 2, 1) := by decide +kernel
theorem dL_law_705 : decode cL_law 705 = .ok (.iadd, 1) := by decide +kernel
theorem dL_law_706 : decode cL_law 706 = .ok (.iaload, 1) := by decide +kernel
theorem dL_law_707 : decode cL_law 707 = .ok (.invokevirtual 97, 3) := by decide +kernel
theorem dL_law_710 : decode cL_law 710 = .ok (.if_icmp .eq 306, 3) := by decide +kernel
theorem dL_law_713 : decode cL_law 713 = .ok (.iconst 0, 1) := by decide +kernel
theorem dL_law_714 : decode cL_law 714 = .ok (.ireturn, 1) := by decide +kernel
theorem dL_law_715 : decode cL_law 715 = .ok (.aload_n 1, 1) := by decide +kernel
theorem dL_law_716 : decode cL_law 716 = .ok (.aload_n 0, 1) := by decide +kernel
theorem dL_law_717 : decode cL_law 717 = .ok (.iload_n 3, 1) := by decide +kernel
theorem dL_law_718 : decode cL_law 718 = .ok (.iconst 1, 1) := by decide +kernel
theorem dL_law_719 : decode cL_law 719 = .ok (.iadd, 1) := by decide +kernel
theorem dL_law_720 : decode cL_law 720 = .ok (.iaload, 1) := by decide +kernel
theorem dL_law_721 : decode cL_law 721 = .ok (.aload_n 0, 1) := by decide +kernel
theorem dL_law_722 : decode cL_law 722 = .ok (.iload_n 3, 1) := by decide +kernel
theorem dL_law_723 : decode cL_law 723 = .ok (.iconst 2, 1) := by decide +kernel
theorem dL_law_724 : decode cL_law 724 = .ok (.iadd, 1) := by decide +kernel
theorem dL_law_725 : decode cL_law 725 = .ok (.iaload, 1) := by decide +kernel
theorem dL_law_726 : decode cL_law 726 = .ok (.aload_n 0, 1) := by decide +kernel
theorem dL_law_727 : decode cL_law 727 = .ok (.iload_n 3, 1) := by decide +kernel
theorem dL_law_728 : decode cL_law 728 = .ok (.iconst 3, 1) := by decide +kernel
theorem dL_law_729 : decode cL_law 729 = .ok (.iadd, 1) := by decide +kernel
theorem dL_law_730 : decode cL_law 730 = .ok (.iaload, 1) := by decide +kernel
theorem dL_law_731 : decode cL_law 731 = .ok (.aload_n 0, 1) := by decide +kernel
theorem dL_law_732 : decode cL_law 732 = .ok (.iload_n 3, 1) := by decide +kernel
theorem dL_law_733 : decode cL_law 733 = .ok (.iconst 4, 1) := by decide +kernel
theorem dL_law_734 : decode cL_law 734 = .ok (.iadd, 1) := by decide +kernel
theorem dL_law_735 : decode cL_law 735 = .ok (.iaload, 1) := by decide +kernel
theorem dL_law_736 : decode cL_law 736 = .ok (.invokevirtual 98, 3) := by decide +kernel
theorem dL_law_739 : decode cL_law 739 = .ok (.aload_n 2, 1) := by decide +kernel
theorem dL_law_740 : decode cL_law 740 = .ok (.aload_n 0, 1) := by decide +kernel
theorem dL_law_741 : decode cL_law 741 = .ok (.iload_n 3, 1) := by decide +kernel
theorem dL_law_742 : decode cL_law 742 = .ok (.iconst 1, 1) := by decide +kernel
theorem dL_law_743 : decode cL_law 743 = .ok (.iadd, 1) := by decide +kernel
theorem dL_law_744 : decode cL_law 744 = .ok (.iaload, 1) := by decide +kernel
theorem dL_law_745 : decode cL_law 745 = .ok (.aload_n 0, 1) := by decide +kernel
theorem dL_law_746 : decode cL_law 746 = .ok (.iload_n 3, 1) := by decide +kernel
theorem dL_law_747 : decode cL_law 747 = .ok (.iconst 2, 1) := by decide +kernel
theorem dL_law_748 : decode cL_law 748 = .ok (.iadd, 1) := by decide +kernel
theorem dL_law_749 : decode cL_law 749 = .ok (.iaload, 1) := by decide +kernel
theorem dL_law_750 : decode cL_law 750 = .ok (.aload_n 0, 1) := by decide +kernel
theorem dL_law_751 : decode cL_law 751 = .ok (.iload_n 3, 1) := by decide +kernel
theorem dL_law_752 : decode cL_law 752 = .ok (.iconst 3, 1) := by decide +kernel
theorem dL_law_753 : decode cL_law 753 = .ok (.iadd, 1) := by decide +kernel
theorem dL_law_754 : decode cL_law 754 = .ok (.iaload, 1) := by decide +kernel
theorem dL_law_755 : decode cL_law 755 = .ok (.aload_n 0, 1) := by decide +kernel
theorem dL_law_756 : decode cL_law 756 = .ok (.iload_n 3, 1) := by decide +kernel
theorem dL_law_757 : decode cL_law 757 = .ok (.iconst 4, 1) := by decide +kernel
theorem dL_law_758 : decode cL_law 758 = .ok (.iadd, 1) := by decide +kernel
theorem dL_law_759 : decode cL_law 759 = .ok (.iaload, 1) := by decide +kernel
theorem dL_law_760 : decode cL_law 760 = .ok (.invokevirtual 102, 3) := by decide +kernel
theorem dL_law_763 : decode cL_law 763 = .ok (.if_icmp .eq 253, 3) := by decide +kernel
theorem dL_law_766 : decode cL_law 766 = .ok (.iconst 0, 1) := by decide +kernel
theorem dL_law_767 : decode cL_law 767 = .ok (.ireturn, 1) := by decide +kernel
theorem dL_law_768 : decode cL_law 768 = .ok (.aload_n 1, 1) := by decide +kernel
theorem dL_law_769 : decode cL_law 769 = .ok (.aload_n 0, 1) := by decide +kernel
theorem dL_law_770 : decode cL_law 770 = .ok (.iload_n 3, 1) := by decide +kernel
theorem dL_law_771 : decode cL_law 771 = .ok (.iconst 1, 1) := by decide +kernel
theorem dL_law_772 : decode cL_law 772 = .ok (.iadd, 1) := by decide +kernel
theorem dL_law_773 : decode cL_law 773 = .ok (.iaload, 1) := by decide +kernel
theorem dL_law_774 : decode cL_law 774 = .ok (.aload_n 0, 1) := by decide +kernel
theorem dL_law_775 : decode cL_law 775 = .ok (.iload_n 3, 1) := by decide +kernel
theorem dL_law_776 : decode cL_law 776 = .ok (.iconst 2, 1) := by decide +kernel
theorem dL_law_777 : decode cL_law 777 = .ok (.iadd, 1) := by decide +kernel
theorem dL_law_778 : decode cL_law 778 = .ok (.iaload, 1) := by decide +kernel
theorem dL_law_779 : decode cL_law 779 = .ok (.invokevirtual 103, 3) := by decide +kernel
theorem dL_law_782 : decode cL_law 782 = .ok (.aload_n 2, 1) := by decide +kernel
theorem dL_law_783 : decode cL_law 783 = .ok (.aload_n 0, 1) := by decide +kernel
theorem dL_law_784 : decode cL_law 784 = .ok (.iload_n 3, 1) := by decide +kernel
theorem dL_law_785 : decode cL_law 785 = .ok (.iconst 1, 1) := by decide +kernel
theorem dL_law_786 : decode cL_law 786 = .ok (.iadd, 1) := by decide +kernel
theorem dL_law_787 : decode cL_law 787 = .ok (.iaload, 1) := by decide +kernel
theorem dL_law_788 : decode cL_law 788 = .ok (.aload_n 0, 1) := by decide +kernel
theorem dL_law_789 : decode cL_law 789 = .ok (.iload_n 3, 1) := by decide +kernel
theorem dL_law_790 : decode cL_law 790 = .ok (.iconst 2, 1) := by decide +kernel
theorem dL_law_791 : decode cL_law 791 = .ok (.iadd, 1) := by decide +kernel
theorem dL_law_792 : decode cL_law 792 = .ok (.iaload, 1) := by decide +kernel
theorem dL_law_793 : decode cL_law 793 = .ok (.invokevirtual 106, 3) := by decide +kernel
theorem dL_law_796 : decode cL_law 796 = .ok (.if_icmp .eq 220, 3) := by decide +kernel
theorem dL_law_799 : decode cL_law 799 = .ok (.iconst 0, 1) := by decide +kernel
theorem dL_law_800 : decode cL_law 800 = .ok (.ireturn, 1) := by decide +kernel
theorem dL_law_801 : decode cL_law 801 = .ok (.aload_n 1, 1) := by decide +kernel
theorem dL_law_802 : decode cL_law 802 = .ok (.aload_n 0, 1) := by decide +kernel
theorem dL_law_803 : decode cL_law 803 = .ok (.iload_n 3, 1) := by decide +kernel
theorem dL_law_804 : decode cL_law 804 = .ok (.iconst 1, 1) := by decide +kernel
theorem dL_law_805 : decode cL_law 805 = .ok (.iadd, 1) := by decide +kernel
theorem dL_law_806 : decode cL_law 806 = .ok (.iaload, 1) := by decide +kernel
theorem dL_law_807 : decode cL_law 807 = .ok (.invokevirtual 107, 3) := by decide +kernel
theorem dL_law_810 : decode cL_law 810 = .ok (.aload_n 2, 1) := by decide +kernel
theorem dL_law_811 : decode cL_law 811 = .ok (.aload_n 0, 1) := by decide +kernel
theorem dL_law_812 : decode cL_law 812 = .ok (.iload_n 3, 1) := by decide +kernel
theorem dL_law_813 : decode cL_law 813 = .ok (.iconst 1, 1) := by decide +kernel
theorem dL_law_814 : decode cL_law 814 = .ok (.iadd, 1) := by decide +kernel
theorem dL_law_815 : decode cL_law 815 = .ok (.iaload, 1) := by decide +kernel
theorem dL_law_816 : decode cL_law 816 = .ok (.invokevirtual 110, 3) := by decide +kernel
theorem dL_law_819 : decode cL_law 819 = .ok (.if_icmp .eq 197, 3) := by decide +kernel
theorem dL_law_822 : decode cL_law 822 = .ok (.iconst 0, 1) := by decide +kernel
theorem dL_law_823 : decode cL_law 823 = .ok (.ireturn, 1) := by decide +kernel
theorem dL_law_824 : decode cL_law 824 = .ok (.aload_n 1, 1) := by decide +kernel
theorem dL_law_825 : decode cL_law 825 = .ok (.aload_n 0, 1) := by decide +kernel
theorem dL_law_826 : decode cL_law 826 = .ok (.iload_n 3, 1) := by decide +kernel
theorem dL_law_827 : decode cL_law 827 = .ok (.iconst 1, 1) := by decide +kernel
theorem dL_law_828 : decode cL_law 828 = .ok (.iadd, 1) := by decide +kernel
theorem dL_law_829 : decode cL_law 829 = .ok (.iaload, 1) := by decide +kernel
theorem dL_law_830 : decode cL_law 830 = .ok (.aload_n 0, 1) := by decide +kernel
theorem dL_law_831 : decode cL_law 831 = .ok (.iload_n 3, 1) := by decide +kernel
theorem dL_law_832 : decode cL_law 832 = .ok (.iconst 2, 1) := by decide +kernel
theorem dL_law_833 : decode cL_law 833 = .ok (.iadd, 1) := by decide +kernel
theorem dL_law_834 : decode cL_law 834 = .ok (.iaload, 1) := by decide +kernel
theorem dL_law_835 : decode cL_law 835 = .ok (.invokevirtual 111, 3) := by decide +kernel
theorem dL_law_838 : decode cL_law 838 = .ok (.aload_n 2, 1) := by decide +kernel
theorem dL_law_839 : decode cL_law 839 = .ok (.aload_n 0, 1) := by decide +kernel
theorem dL_law_840 : decode cL_law 840 = .ok (.iload_n 3, 1) := by decide +kernel
theorem dL_law_841 : decode cL_law 841 = .ok (.iconst 1, 1) := by decide +kernel
theorem dL_law_842 : decode cL_law 842 = .ok (.iadd, 1) := by decide +kernel
theorem dL_law_843 : decode cL_law 843 = .ok (.iaload, 1) := by decide +kernel
theorem dL_law_844 : decode cL_law 844 = .ok (.aload_n 0, 1) := by decide +kernel
theorem dL_law_845 : decode cL_law 845 = .ok (.iload_n 3, 1) := by decide +kernel
theorem dL_law_846 : decode cL_law 846 = .ok (.iconst 2, 1) := by decide +kernel
theorem dL_law_847 : decode cL_law 847 = .ok (.iadd, 1) := by decide +kernel
theorem dL_law_848 : decode cL_law 848 = .ok (.iaload, 1) := by decide +kernel
theorem dL_law_849 : decode cL_law 849 = .ok (.invokevirtual 114, 3) := by decide +kernel
theorem dL_law_852 : decode cL_law 852 = .ok (.if_icmp .eq 164, 3) := by decide +kernel
theorem dL_law_855 : decode cL_law 855 = .ok (.iconst 0, 1) := by decide +kernel
theorem dL_law_856 : decode cL_law 856 = .ok (.ireturn, 1) := by decide +kernel
theorem dL_law_857 : decode cL_law 857 = .ok (.aload_n 1, 1) := by decide +kernel
theorem dL_law_858 : decode cL_law 858 = .ok (.aload_n 0, 1) := by decide +kernel
theorem dL_law_859 : decode cL_law 859 = .ok (.iload_n 3, 1) := by decide +kernel
theorem dL_law_860 : decode cL_law 860 = .ok (.iconst 1, 1) := by decide +kernel
theorem dL_law_861 : decode cL_law 861 = .ok (.iadd, 1) := by decide +kernel
theorem dL_law_862 : decode cL_law 862 = .ok (.iaload, 1) := by decide +kernel
theorem dL_law_863 : decode cL_law 863 = .ok (.invokevirtual 115, 3) := by decide +kernel
theorem dL_law_866 : decode cL_law 866 = .ok (.aload_n 2, 1) := by decide +kernel
theorem dL_law_867 : decode cL_law 867 = .ok (.aload_n 0, 1) := by decide +kernel
theorem dL_law_868 : decode cL_law 868 = .ok (.iload_n 3, 1) := by decide +kernel
theorem dL_law_869 : decode cL_law 869 = .ok (.iconst 1, 1) := by decide +kernel
theorem dL_law_870 : decode cL_law 870 = .ok (.iadd, 1) := by decide +kernel
theorem dL_law_871 : decode cL_law 871 = .ok (.iaload, 1) := by decide +kernel
theorem dL_law_872 : decode cL_law 872 = .ok (.invokevirtual 118, 3) := by decide +kernel
theorem dL_law_875 : decode cL_law 875 = .ok (.if_icmp .eq 141, 3) := by decide +kernel
theorem dL_law_878 : decode cL_law 878 = .ok (.iconst 0, 1) := by decide +kernel
theorem dL_law_879 : decode cL_law 879 = .ok (.ireturn, 1) := by decide +kernel
theorem dL_law_880 : decode cL_law 880 = .ok (.aload_n 1, 1) := by decide +kernel
theorem dL_law_881 : decode cL_law 881 = .ok (.aload_n 0, 1) := by decide +kernel
theorem dL_law_882 : decode cL_law 882 = .ok (.iload_n 3, 1) := by decide +kernel
theorem dL_law_883 : decode cL_law 883 = .ok (.iconst 1, 1) := by decide +kernel
theorem dL_law_884 : decode cL_law 884 = .ok (.iadd, 1) := by decide +kernel
theorem dL_law_885 : decode cL_law 885 = .ok (.iaload, 1) := by decide +kernel
theorem dL_law_886 : decode cL_law 886 = .ok (.aload_n 0, 1) := by decide +kernel
theorem dL_law_887 : decode cL_law 887 = .ok (.iload_n 3, 1) := by decide +kernel
theorem dL_law_888 : decode cL_law 888 = .ok (.iconst 2, 1) := by decide +kernel
theorem dL_law_889 : decode cL_law 889 = .ok (.iadd, 1) := by decide +kernel
theorem dL_law_890 : decode cL_law 890 = .ok (.iaload, 1) := by decide +kernel
theorem dL_law_891 : decode cL_law 891 = .ok (.invokevirtual 119, 3) := by decide +kernel
theorem dL_law_894 : decode cL_law 894 = .ok (.aload_n 2, 1) := by decide +kernel
theorem dL_law_895 : decode cL_law 895 = .ok (.aload_n 0, 1) := by decide +kernel
theorem dL_law_896 : decode cL_law 896 = .ok (.iload_n 3, 1) := by decide +kernel
theorem dL_law_897 : decode cL_law 897 = .ok (.iconst 1, 1) := by decide +kernel
theorem dL_law_898 : decode cL_law 898 = .ok (.iadd, 1) := by decide +kernel
theorem dL_law_899 : decode cL_law 899 = .ok (.iaload, 1) := by decide +kernel
theorem dL_law_900 : decode cL_law 900 = .ok (.aload_n 0, 1) := by decide +kernel
theorem dL_law_901 : decode cL_law 901 = .ok (.iload_n 3, 1) := by decide +kernel
theorem dL_law_902 : decode cL_law 902 = .ok (.iconst 2, 1) := by decide +kernel
theorem dL_law_903 : decode cL_law 903 = .ok (.iadd, 1) := by decide +kernel
theorem dL_law_904 : decode cL_law 904 = .ok (.iaload, 1) := by decide +kernel
theorem dL_law_905 : decode cL_law 905 = .ok (.invokevirtual 122, 3) := by decide +kernel
theorem dL_law_908 : decode cL_law 908 = .ok (.if_icmp .eq 108, 3) := by decide +kernel
theorem dL_law_911 : decode cL_law 911 = .ok (.iconst 0, 1) := by decide +kernel
theorem dL_law_912 : decode cL_law 912 = .ok (.ireturn, 1) := by decide +kernel
theorem dL_law_913 : decode cL_law 913 = .ok (.aload_n 1, 1) := by decide +kernel
theorem dL_law_914 : decode cL_law 914 = .ok (.invokevirtual 123, 3) := by decide +kernel
theorem dL_law_917 : decode cL_law 917 = .ok (.aload_n 2, 1) := by decide +kernel
theorem dL_law_918 : decode cL_law 918 = .ok (.invokevirtual 126, 3) := by decide +kernel
theorem dL_law_921 : decode cL_law 921 = .ok (.goto 95, 3) := by decide +kernel
theorem dL_law_924 : decode cL_law 924 = .ok (.aload_n 1, 1) := by decide +kernel
theorem dL_law_925 : decode cL_law 925 = .ok (.aload_n 0, 1) := by decide +kernel
theorem dL_law_926 : decode cL_law 926 = .ok (.iload_n 3, 1) := by decide +kernel
theorem dL_law_927 : decode cL_law 927 = .ok (.iconst 1, 1) := by decide +kernel
theorem dL_law_928 : decode cL_law 928 = .ok (.iadd, 1) := by decide +kernel
theorem dL_law_929 : decode cL_law 929 = .ok (.iaload, 1) := by decide +kernel
theorem dL_law_930 : decode cL_law 930 = .ok (.invokevirtual 127, 3) := by decide +kernel
theorem dL_law_933 : decode cL_law 933 = .ok (.aload_n 2, 1) := by decide +kernel
theorem dL_law_934 : decode cL_law 934 = .ok (.aload_n 0, 1) := by decide +kernel
theorem dL_law_935 : decode cL_law 935 = .ok (.iload_n 3, 1) := by decide +kernel
theorem dL_law_936 : decode cL_law 936 = .ok (.iconst 1, 1) := by decide +kernel
theorem dL_law_937 : decode cL_law 937 = .ok (.iadd, 1) := by decide +kernel
theorem dL_law_938 : decode cL_law 938 = .ok (.iaload, 1) := by decide +kernel
theorem dL_law_939 : decode cL_law 939 = .ok (.invokevirtual 130, 3) := by decide +kernel
theorem dL_law_942 : decode cL_law 942 = .ok (.if_icmp .eq 74, 3) := by decide +kernel
theorem dL_law_945 : decode cL_law 945 = .ok (.iconst 0, 1) := by decide +kernel
theorem dL_law_946 : decode cL_law 946 = .ok (.ireturn, 1) := by decide +kernel
theorem dL_law_947 : decode cL_law 947 = .ok (.aload_n 1, 1) := by decide +kernel
theorem dL_law_948 : decode cL_law 948 = .ok (.invokevirtual 131, 3) := by decide +kernel
theorem dL_law_951 : decode cL_law 951 = .ok (.aload_n 2, 1) := by decide +kernel
theorem dL_law_952 : decode cL_law 952 = .ok (.invokevirtual 134, 3) := by decide +kernel
theorem dL_law_955 : decode cL_law 955 = .ok (.if_icmp .eq 61, 3) := by decide +kernel
theorem dL_law_958 : decode cL_law 958 = .ok (.iconst 0, 1) := by decide +kernel
theorem dL_law_959 : decode cL_law 959 = .ok (.ireturn, 1) := by decide +kernel
theorem dL_law_960 : decode cL_law 960 = .ok (.aload_n 1, 1) := by decide +kernel
theorem dL_law_961 : decode cL_law 961 = .ok (.aload_n 0, 1) := by decide +kernel
theorem dL_law_962 : decode cL_law 962 = .ok (.iload_n 3, 1) := by decide +kernel
theorem dL_law_963 : decode cL_law 963 = .ok (.iconst 1, 1) := by decide +kernel
theorem dL_law_964 : decode cL_law 964 = .ok (.iadd, 1) := by decide +kernel
theorem dL_law_965 : decode cL_law 965 = .ok (.iaload, 1) := by decide +kernel
theorem dL_law_966 : decode cL_law 966 = .ok (.aload_n 0, 1) := by decide +kernel
theorem dL_law_967 : decode cL_law 967 = .ok (.iload_n 3, 1) := by decide +kernel
theorem dL_law_968 : decode cL_law 968 = .ok (.iconst 2, 1) := by decide +kernel
theorem dL_law_969 : decode cL_law 969 = .ok (.iadd, 1) := by decide +kernel
theorem dL_law_970 : decode cL_law 970 = .ok (.iaload, 1) := by decide +kernel
theorem dL_law_971 : decode cL_law 971 = .ok (.invokevirtual 135, 3) := by decide +kernel
theorem dL_law_974 : decode cL_law 974 = .ok (.aload_n 2, 1) := by decide +kernel
theorem dL_law_975 : decode cL_law 975 = .ok (.aload_n 0, 1) := by decide +kernel
theorem dL_law_976 : decode cL_law 976 = .ok (.iload_n 3, 1) := by decide +kernel
theorem dL_law_977 : decode cL_law 977 = .ok (.iconst 1, 1) := by decide +kernel
theorem dL_law_978 : decode cL_law 978 = .ok (.iadd, 1) := by decide +kernel
theorem dL_law_979 : decode cL_law 979 = .ok (.iaload, 1) := by decide +kernel
theorem dL_law_980 : decode cL_law 980 = .ok (.aload_n 0, 1) := by decide +kernel
theorem dL_law_981 : decode cL_law 981 = .ok (.iload_n 3, 1) := by decide +kernel
theorem dL_law_982 : decode cL_law 982 = .ok (.iconst 2, 1) := by decide +kernel
theorem dL_law_983 : decode cL_law 983 = .ok (.iadd, 1) := by decide +kernel
theorem dL_law_984 : decode cL_law 984 = .ok (.iaload, 1) := by decide +kernel
theorem dL_law_985 : decode cL_law 985 = .ok (.invokevirtual 138, 3) := by decide +kernel
theorem dL_law_988 : decode cL_law 988 = .ok (.if_icmp .eq 28, 3) := by decide +kernel
theorem dL_law_991 : decode cL_law 991 = .ok (.iconst 0, 1) := by decide +kernel
theorem dL_law_992 : decode cL_law 992 = .ok (.ireturn, 1) := by decide +kernel
theorem dL_law_993 : decode cL_law 993 = .ok (.aload_n 1, 1) := by decide +kernel
theorem dL_law_994 : decode cL_law 994 = .ok (.aload_n 0, 1) := by decide +kernel
theorem dL_law_995 : decode cL_law 995 = .ok (.iload_n 3, 1) := by decide +kernel
theorem dL_law_996 : decode cL_law 996 = .ok (.iconst 1, 1) := by decide +kernel
theorem dL_law_997 : decode cL_law 997 = .ok (.iadd, 1) := by decide +kernel
theorem dL_law_998 : decode cL_law 998 = .ok (.iaload, 1) := by decide +kernel
theorem dL_law_999 : decode cL_law 999 = .ok (.invokevirtual 139, 3) := by decide +kernel
theorem dL_law_1002 : decode cL_law 1002 = .ok (.aload_n 2, 1) := by decide +kernel
theorem dL_law_1003 : decode cL_law 1003 = .ok (.aload_n 0, 1) := by decide +kernel
theorem dL_law_1004 : decode cL_law 1004 = .ok (.iload_n 3, 1) := by decide +kernel
theorem dL_law_1005 : decode cL_law 1005 = .ok (.iconst 1, 1) := by decide +kernel
theorem dL_law_1006 : decode cL_law 1006 = .ok (.iadd, 1) := by decide +kernel
theorem dL_law_1007 : decode cL_law 1007 = .ok (.iaload, 1) := by decide +kernel
theorem dL_law_1008 : decode cL_law 1008 = .ok (.invokevirtual 142, 3) := by decide +kernel
theorem dL_law_1011 : decode cL_law 1011 = .ok (.if_icmp .eq 5, 3) := by decide +kernel
theorem dL_law_1014 : decode cL_law 1014 = .ok (.iconst 0, 1) := by decide +kernel
theorem dL_law_1015 : decode cL_law 1015 = .ok (.ireturn, 1) := by decide +kernel
theorem dL_law_1016 : decode cL_law 1016 = .ok (.iinc 3 6, 3) := by decide +kernel
theorem dL_law_1019 : decode cL_law 1019 = .ok (.goto (-1001), 3) := by decide +kernel
theorem dL_law_1022 : decode cL_law 1022 = .ok (.iconst 1, 1) := by decide +kernel
theorem dL_law_1023 : decode cL_law 1023 = .ok (.ireturn, 1) := by decide +kernel
end
section
/-! a judgement over an abstract world: tags for addresses, a function for the heap; each row of it comes out of a row of the kit -/
abbrev z_T : Type := Nat × Nat
abbrev z_v : Type := Int32 ⊕ (Int64 ⊕ Option z_T)
abbrev vi (x : Int32) : z_v := .inl x
abbrev vl (x : Int64) : z_v := .inr (.inl x)
abbrev vr (t : z_T) : z_v := .inr (.inr (some t))
abbrev vn : z_v := .inr (.inr none)
def z_cv (ad : z_T → Nat) : z_v → Value
  | .inl x => .int x
  | .inr (.inl x) => .long x
  | .inr (.inr none) => .null
  | .inr (.inr (some t)) => .ref (ad t)
abbrev z_ar : Type := (Nat → Int32) ⊕ ((Nat → Int64) ⊕ (Nat → Option z_T))
abbrev z_c : Type := (Nat × Nat × z_ar) ⊕ (Nat × List z_v)
abbrev z_ia (n : Nat) (f : Nat → Int32) : z_c := .inl (0, n, .inl f)
abbrev z_za (n : Nat) (f : Nat → Int32) : z_c := .inl (2, n, .inl f)
abbrev z_la (n : Nat) (f : Nat → Int64) : z_c := .inl (1, n, .inr (.inl f))
abbrev z_ra (k n : Nat) (f : Nat → Option z_T) : z_c := .inl (k, n, .inr (.inr f))
abbrev z_ob (ci : Nat) (fs : List z_v) : z_c := .inr (ci, fs)
abbrev z_w : Type := z_T → Option z_c
def z_eq (a b : z_T) : Bool := Nat.beq a.1 b.1 && Nat.beq a.2 b.2
def z_set (w : z_w) (t : z_T) (c : z_c) : z_w := fun q => bif z_eq q t then some c else w q
theorem z_eq_iff {a b : z_T} : z_eq a b = true ↔ a = b := by
  obtain ⟨a1, a2⟩ := a
  obtain ⟨b1, b2⟩ := b
  simp [z_eq, Prod.ext_iff]
theorem z_eq_self (a : z_T) : z_eq a a = true := z_eq_iff.mpr rfl
theorem z_eq_ne {a b : z_T} (h : a ≠ b) : z_eq a b = false := by
  cases e : z_eq a b with
  | false => rfl
  | true => exact absurd (z_eq_iff.mp e) h
theorem z_set_self (w : z_w) (t : z_T) (c : z_c) : z_set w t c t = some c := by simp [z_set, z_eq_self]
theorem z_set_ne {w : z_w} {t q : z_T} {c : z_c} (h : q ≠ t) : z_set w t c q = w q := by simp [z_set, z_eq_ne h]
theorem z_set_some {w : z_w} {t q : z_T} {c : z_c} (h : w q ≠ none) : z_set w t c q ≠ none := by
  by_cases e : q = t
  · subst e; rw [z_set_self]; simp
  · rw [z_set_ne e]; exact h
theorem z_set_none {w : z_w} {t q : z_T} {c : z_c} (h : w q = none) (hn : q ≠ t) : z_set w t c q = none := by rw [z_set_ne hn]; exact h
theorem z_set_same {w : z_w} {t : z_T} {c : z_c} (h : w t = some c) : z_set w t c = w := by
  funext q
  by_cases e : q = t
  · subst e; rw [z_set_self, h]
  · rw [z_set_ne e]
theorem z_set_set (w : z_w) (t : z_T) (c d : z_c) : z_set (z_set w t c) t d = z_set w t d := by
  funext q
  by_cases e : q = t
  · subst e; rw [z_set_self, z_set_self]
  · rw [z_set_ne e, z_set_ne e, z_set_ne e]
/-- apart from these tags the worlds are one -/
def z_fr (ts : List z_T) (w w' : z_w) : Prop := ∀ t, t ∉ ts → w' t = w t
theorem z_fr.rf {ts : List z_T} {w : z_w} : z_fr ts w w := fun _ _ => rfl
theorem z_fr.set {ts : List z_T} {w w' : z_w} {t : z_T} {c : z_c} (h : z_fr ts w w') (ht : t ∈ ts) : z_fr ts w (z_set w' t c) := fun q hq => by
  rw [z_set_ne (fun e => hq (by rw [e]; exact ht))]
  exact h q hq
theorem z_fr.trans {ts us : List z_T} {w w' w'' : z_w} (h : z_fr ts w w') (h2 : z_fr us w' w'') (hu : ∀ t ∈ us, t ∈ ts) : z_fr ts w w'' := fun q hq => by
  rw [h2 q (fun e => hq (hu q e)), h q hq]
theorem z_fr.mono {ts us : List z_T} {w w' : z_w} (h : z_fr us w w') (hu : ∀ t ∈ us, t ∈ ts) : z_fr ts w w' := fun q hq => h q (fun e => hq (hu q e))
/-- conversions -/
def z_kt : Nat → FieldType
  | 0 => .int
  | 1 => .long
  | 2 => .boolean
  | 3 => .object "BogForge$Bog"
  | 4 => .object "BogForge$Bar"
  | _ => .object "BogForge$Pay"
def z_ce (dA : Nat → ClassId) (ad : z_T → Nat) : z_c → va_E
  | .inl (k, n, .inl f) => .inl (dA k, n, .inl f)
  | .inl (k, n, .inr (.inl f)) => .inl (dA k, n, .inr (.inl f))
  | .inl (k, n, .inr (.inr f)) => .inl (dA k, n, .inr (.inr (.inr (.inr (fun i => (f i).map ad)))))
  | .inr (ci, fs) => .inr (ci, fs.map (z_cv ad))
def z_co (dA : Nat → ClassId) (ad : z_T → Nat) : Option z_c → va_E
  | some c => z_ce dA ad c
  | none => .inr (0, [])
def z_ls (dA : Nat → ClassId) (ad : z_T → Nat) (w : z_w) (ts : List z_T) : va_W := ts.map (fun t => (ad t, z_co dA ad (w t)))
def z_okv (E0 : z_T → Prop) (w : z_w) : z_v → Prop
  | .inr (.inr (some t)) => w t ≠ none ∨ E0 t
  | _ => True
def z_oks (E0 : z_T → Prop) (w : z_w) : List z_v → Prop
  | [] => True
  | v :: r => z_okv E0 w v ∧ z_oks E0 w r
def z_okl (E0 : z_T → Prop) (w : z_w) (L : List (Nat × z_v)) : Prop := ∀ q ∈ L, z_okv E0 w q.2
def z_okc (E0 : z_T → Prop) (w : z_w) : z_c → Prop
  | .inl (_, _, .inr (.inr f)) => ∀ i t, f i = some t → w t ≠ none ∨ E0 t
  | .inr (_, fs) => ∀ v ∈ fs, z_okv E0 w v
  | _ => True
def z_Cl (E0 : z_T → Prop) (w : z_w) : Prop := ∀ t c, w t = some c → z_okc E0 w c
theorem z_oks_mem {E0 : z_T → Prop} {w : z_w} : ∀ {l : List z_v}, z_oks E0 w l ↔ ∀ v ∈ l, z_okv E0 w v
  | [] => by simp [z_oks]
  | a :: r => by simp [z_oks, z_oks_mem (l := r)]
theorem z_okv_mono {E0 : z_T → Prop} {w w' : z_w} (h : ∀ t, w t ≠ none → w' t ≠ none) {v : z_v} (hv : z_okv E0 w v) : z_okv E0 w' v := by
  match v, hv with
  | .inl _, _ => trivial
  | .inr (.inl _), _ => trivial
  | .inr (.inr none), _ => trivial
  | .inr (.inr (some t)), hv => exact hv.imp (h t) id
theorem z_oks_mono {E0 : z_T → Prop} {w w' : z_w} (h : ∀ t, w t ≠ none → w' t ≠ none) {l : List z_v} (hv : z_oks E0 w l) : z_oks E0 w' l := z_oks_mem.mpr fun v hm => z_okv_mono h (z_oks_mem.mp hv v hm)
theorem z_okl_mono {E0 : z_T → Prop} {w w' : z_w} (h : ∀ t, w t ≠ none → w' t ≠ none) {l : List (Nat × z_v)} (hv : z_okl E0 w l) : z_okl E0 w' l := fun q hq => z_okv_mono h (hv q hq)
theorem z_okc_mono {E0 : z_T → Prop} {w w' : z_w} (h : ∀ t, w t ≠ none → w' t ≠ none) {c : z_c} (hc : z_okc E0 w c) : z_okc E0 w' c := by
  match c, hc with
  | .inl (_, _, .inl _), _ => trivial
  | .inl (_, _, .inr (.inl _)), _ => trivial
  | .inl (_, _, .inr (.inr f)), hc => exact fun i t ht => (hc i t ht).imp (h t) id
  | .inr (_, fs), hc => exact fun v hv => z_okv_mono h (hc v hv)
theorem z_Cl_set {E0 : z_T → Prop} {w : z_w} (h : z_Cl E0 w) {t : z_T} {c : z_c} (hc : z_okc E0 w c) : z_Cl E0 (z_set w t c) := by
  intro q d hd
  have hm : ∀ t', w t' ≠ none → z_set w t c t' ≠ none := fun _ h => z_set_some h
  by_cases e : q = t
  · subst e
    rw [z_set_self] at hd
    cases hd
    exact z_okc_mono hm hc
  · rw [z_set_ne e] at hd
    exact z_okc_mono hm (h q d hd)
theorem z_okv_up {E0 : z_T → Prop} {w : z_w} {v : z_v} (h : z_okv (fun _ => False) w v) : z_okv E0 w v := by
  match v, h with
  | .inl _, _ => trivial
  | .inr (.inl _), _ => trivial
  | .inr (.inr none), _ => trivial
  | .inr (.inr (some t)), hv => exact hv.imp id False.elim
theorem z_okc_up {E0 : z_T → Prop} {w : z_w} {c : z_c} (h : z_okc (fun _ => False) w c) : z_okc E0 w c := by
  match c, h with
  | .inl (_, _, .inl _), _ => trivial
  | .inl (_, _, .inr (.inl _)), _ => trivial
  | .inl (_, _, .inr (.inr f)), hc => exact fun i t ht => (hc i t ht).imp id False.elim
  | .inr (_, fs), hc => exact fun v hv => z_okv_up (hc v hv)
/-- values that are closed in the world don't see the others' addresses -/
theorem z_cv_eq {E0 : z_T → Prop} {w : z_w} {ad ad' : z_T → Nat} (h : ∀ t, w t ≠ none ∨ E0 t → ad' t = ad t) {v : z_v} (hv : z_okv E0 w v) : z_cv ad' v = z_cv ad v := by
  match v, hv with
  | .inl _, _ => rfl
  | .inr (.inl _), _ => rfl
  | .inr (.inr none), _ => rfl
  | .inr (.inr (some t)), hv => exact congrArg Value.ref (h t hv)
theorem z_ce_eq {E0 : z_T → Prop} {w : z_w} {dA : Nat → ClassId} {ad ad' : z_T → Nat} (h : ∀ t, w t ≠ none ∨ E0 t → ad' t = ad t) {c : z_c} (hc : z_okc E0 w c) : z_ce dA ad' c = z_ce dA ad c := by
  match c, hc with
  | .inl (_, _, .inl _), _ => rfl
  | .inl (_, _, .inr (.inl _)), _ => rfl
  | .inl (k, n, .inr (.inr f)), hc =>
    have e : (fun i => (f i).map ad') = fun i => (f i).map ad := by
      funext i
      cases e : f i with
      | none => rfl
      | some t => exact congrArg some (h t (hc i t e))
    show (Sum.inl (dA k, n, .inr (.inr (.inr (.inr (fun i => (f i).map ad'))))) : va_E) = .inl (dA k, n, .inr (.inr (.inr (.inr (fun i => (f i).map ad)))))
    rw [e]
  | .inr (ci, fs), hc =>
    have e : fs.map (z_cv ad') = fs.map (z_cv ad) := List.map_congr_left fun v hv => z_cv_eq h (hc v hv)
    show (Sum.inr (ci, fs.map (z_cv ad')) : va_E) = .inr (ci, fs.map (z_cv ad))
    rw [e]
theorem z_map_eq {E0 : z_T → Prop} {w : z_w} {ad ad' : z_T → Nat} (h : ∀ t, w t ≠ none ∨ E0 t → ad' t = ad t) {l : List z_v} (hv : z_oks E0 w l) : l.map (z_cv ad') = l.map (z_cv ad) := List.map_congr_left fun v hm => z_cv_eq h (z_oks_mem.mp hv v hm)
theorem z_mapl_eq {E0 : z_T → Prop} {w : z_w} {ad ad' : z_T → Nat} (h : ∀ t, w t ≠ none ∨ E0 t → ad' t = ad t) {l : List (Nat × z_v)} (hv : z_okl E0 w l) : l.map (fun q => (q.1, z_cv ad' q.2)) = l.map (fun q => (q.1, z_cv ad q.2)) := List.map_congr_left fun q hm => by rw [z_cv_eq h (hv q hm)]
/-- the world stands in the heap -/
def z_St (D : va_G) (dA : Nat → ClassId) (A : Nat → Prop) (ad : z_T → Nat) (w : z_w) (ts : List z_T) (H : Heap) : Prop :=
  (∀ t, w t ≠ none ↔ t ∈ ts) ∧ ts.Nodup ∧ va_P D vwCl (z_ls dA ad w ts) H ∧ va_D A (z_ls dA ad w ts) ∧ z_Cl (fun _ => False) w
theorem z_ls_get {dA : Nat → ClassId} {ad : z_T → Nat} {w : z_w} {ts : List z_T} {i : Nat} {t : z_T} (h : ts[i]? = some t) {c : z_c} (hc : w t = some c) : (z_ls dA ad w ts)[i]? = some (ad t, z_ce dA ad c) := by
  rw [z_ls, List.getElem?_map, h]
  show some (ad t, z_co dA ad (w t)) = _
  rw [hc]
  rfl
theorem z_ls_set {dA : Nat → ClassId} {ad : z_T → Nat} {w : z_w} {ts : List z_T} (hn : ts.Nodup) {i : Nat} {t : z_T} (h : ts[i]? = some t) {c : z_c} : (z_ls dA ad w ts).set i (ad t, z_ce dA ad c) = z_ls dA ad (z_set w t c) ts := by
  apply List.ext_getElem?
  intro j
  have hi : i < ts.length := (List.getElem?_eq_some_iff.mp h).1
  by_cases e : j = i
  · subst e
    rw [List.getElem?_set_self (by rw [z_ls, List.length_map]; exact hi), z_ls_get h (z_set_self w t c)]
  · rw [List.getElem?_set_ne (Ne.symm e), z_ls, z_ls, List.getElem?_map, List.getElem?_map]
    cases hj : ts[j]? with
    | none => rfl
    | some u =>
      have hu : u ≠ t := by
        intro q
        subst q
        exact e ((List.getElem?_inj hi hn).mp (h.trans hj.symm)).symm
      show some (ad u, z_co dA ad (w u)) = some (ad u, z_co dA ad (z_set w t c u))
      rw [z_set_ne hu]
theorem z_St.find {D : va_G} {dA : Nat → ClassId} {A : Nat → Prop} {ad : z_T → Nat} {w : z_w} {ts : List z_T} {H : Heap} (h : z_St D dA A ad w ts H) {t : z_T} {c : z_c} (hc : w t = some c) : ∃ i : Nat, ts[i]? = some t ∧ (z_ls dA ad w ts)[i]? = some (ad t, z_ce dA ad c) := by
  have hm : t ∈ ts := (h.1 t).mp (by rw [hc]; simp)
  obtain ⟨i, hi⟩ := List.getElem?_of_mem hm
  exact ⟨i, hi, z_ls_get hi hc⟩
theorem z_St.put {D : va_G} {dA : Nat → ClassId} {A : Nat → Prop} {ad : z_T → Nat} {w : z_w} {ts : List z_T} {H H1 : Heap} (h : z_St D dA A ad w ts H) {t : z_T} {i : Nat} (hi : ts[i]? = some t) {c : z_c} (hc : z_okc (fun _ => False) w c) (hP : va_P D vwCl ((z_ls dA ad w ts).set i (ad t, z_ce dA ad c)) H1) (hD : va_D A ((z_ls dA ad w ts).set i (ad t, z_ce dA ad c))) : z_St D dA A ad (z_set w t c) ts H1 := by
  rw [z_ls_set h.2.1 hi] at hP hD
  refine ⟨fun q => ?_, h.2.1, hP, hD, z_Cl_set h.2.2.2.2 hc⟩
  by_cases e : q = t
  · subst e
    rw [z_set_self]
    exact ⟨fun _ => List.mem_of_getElem? hi, fun _ => by simp⟩
  · rw [z_set_ne e]
    exact h.1 q
theorem z_St.new {D : va_G} {dA : Nat → ClassId} {A : Nat → Prop} {E0 : z_T → Prop} {ad : z_T → Nat} {w : z_w} {ts : List z_T} {H H1 : Heap} (h : z_St D dA A ad w ts H) {t : z_T} (ht : w t = none) (he : ¬ E0 t) {a : Nat} {c : z_c} (hc : z_okc (fun _ => False) w c) (hP : va_P D vwCl (z_ls dA ad w ts ++ [(a, z_ce dA ad c)]) H1) (hD : va_D A (z_ls dA ad w ts ++ [(a, z_ce dA ad c)])) :
    z_St D dA A (fun q => bif z_eq q t then a else ad q) (z_set w t c) (ts ++ [t]) H1 ∧ ∀ q, w q ≠ none ∨ E0 q → (fun q => bif z_eq q t then a else ad q) q = ad q := by
  have hne : ∀ q, w q ≠ none ∨ E0 q → q ≠ t := fun q hq e => by
    subst e
    exact hq.elim (fun z => z ht) he
  have had : ∀ q, w q ≠ none ∨ E0 q → (fun q => bif z_eq q t then a else ad q) q = ad q := fun q hq => by
    show (bif z_eq q t then a else ad q) = ad q
    rw [z_eq_ne (hne q hq)]
    rfl
  have hts : t ∉ ts := fun z => ((h.1 t).mpr z) ht
  have e1 : z_ls dA (fun q => bif z_eq q t then a else ad q) (z_set w t c) (ts ++ [t]) = z_ls dA ad w ts ++ [(a, z_ce dA ad c)] := by
    rw [z_ls, List.map_append]
    congr 1
    · refine List.map_congr_left fun q hq => ?_
      have hqt : q ≠ t := fun e => hts (e ▸ hq)
      have hw : w q ≠ none := (h.1 q).mpr hq
      show ((bif z_eq q t then a else ad q), z_co dA _ (z_set w t c q)) = (ad q, z_co dA ad (w q))
      rw [z_set_ne hqt, z_eq_ne hqt]
      cases hwq : w q with
      | none => exact absurd hwq hw
      | some d =>
        show (ad q, z_ce dA _ d) = (ad q, z_ce dA ad d)
        rw [z_ce_eq had (z_okc_up (h.2.2.2.2 q d hwq))]
    · show [((bif z_eq t t then a else ad t), z_co dA _ (z_set w t c t))] = [(a, z_ce dA ad c)]
      rw [z_set_self, z_eq_self]
      show [(a, z_ce dA _ c)] = _
      rw [z_ce_eq had (z_okc_up hc)]
  refine ⟨⟨fun q => ?_, ?_, by rw [e1]; exact hP, by rw [e1]; exact hD, z_Cl_set h.2.2.2.2 hc⟩, had⟩
  · by_cases e : q = t
    · subst e
      rw [z_set_self]
      simp
    · rw [z_set_ne e, h.1 q]
      simp [e]
  · rw [List.nodup_append]
    refine ⟨h.2.1, by simp, fun x hx y hy => ?_⟩
    rw [List.mem_singleton.mp hy]
    exact fun e => hts (e ▸ hx)
end
section
/-! the judgement z_V, its context, the contract z_M -/
abbrev z_G : Type := Launch × va_G × (Nat → ClassId)
abbrev z_X := Program × Launch × Env × Room × State × MethodId × Array Value × List Frame × Method × Code × (State → Prop) × va_G × (Nat → ClassId) × (Nat → Prop) × Heap × (z_T → Prop) × (z_T → Prop) × (z_T → Nat) × Nat × Nat × Nat
abbrev x_p (X : z_X) := X.1
abbrev x_l (X : z_X) := X.2.1
abbrev x_e (X : z_X) := X.2.2.1
abbrev x_R (X : z_X) := X.2.2.2.1
abbrev x_s (X : z_X) := X.2.2.2.2.1
abbrev x_m (X : z_X) := X.2.2.2.2.2.1
abbrev x_a (X : z_X) := X.2.2.2.2.2.2.1
abbrev x_b (X : z_X) := X.2.2.2.2.2.2.2.1
abbrev x_me (X : z_X) := X.2.2.2.2.2.2.2.2.1
abbrev x_c (X : z_X) := X.2.2.2.2.2.2.2.2.2.1
abbrev x_Q (X : z_X) := X.2.2.2.2.2.2.2.2.2.2.1
abbrev x_D (X : z_X) := X.2.2.2.2.2.2.2.2.2.2.2.1
abbrev x_dA (X : z_X) := X.2.2.2.2.2.2.2.2.2.2.2.2.1
abbrev x_A (X : z_X) := X.2.2.2.2.2.2.2.2.2.2.2.2.2.1
abbrev x_H0 (X : z_X) := X.2.2.2.2.2.2.2.2.2.2.2.2.2.2.1
abbrev x_P0 (X : z_X) := X.2.2.2.2.2.2.2.2.2.2.2.2.2.2.2.1
abbrev x_E0 (X : z_X) := X.2.2.2.2.2.2.2.2.2.2.2.2.2.2.2.2.1
abbrev x_ad (X : z_X) := X.2.2.2.2.2.2.2.2.2.2.2.2.2.2.2.2.2.1
abbrev x_n (X : z_X) := X.2.2.2.2.2.2.2.2.2.2.2.2.2.2.2.2.2.2.1
abbrev x_mc (X : z_X) := X.2.2.2.2.2.2.2.2.2.2.2.2.2.2.2.2.2.2.2.1
abbrev x_ms (X : z_X) := X.2.2.2.2.2.2.2.2.2.2.2.2.2.2.2.2.2.2.2.2
abbrev x_G (X : z_X) : z_G := (x_l X, x_D X, x_dA X)
def z_W (X : z_X) (H : Heap) (locs : List Loc) (cells slots pc : Nat) (ls : Array Slot) (st : List Value) : Prop := W (x_p X) (x_l X) (x_e X) (x_R X) (x_s X) (x_m X) (x_a X) (x_b X) (x_me X) (x_c X) H locs cells slots (x_Q X) (F0 (x_m X) pc ls st)
def z_at (X : z_X) (ad : z_T → Nat) (ts : List z_T) (H : Heap) (locs : List Loc) (ls : Array Slot) (cells slots kC kS : Nat) (w : z_w) (L : List (Nat × z_v)) (st : List z_v) : Prop :=
  (∀ t, x_P0 X t → ad t = x_ad X t) ∧ z_St (x_D X) (x_dA X) (x_A X) ad w ts H ∧ va_S (x_A X) (x_H0 X) H locs ∧ (∀ t, x_P0 X t → w t ≠ none ∨ x_E0 X t) ∧ z_okl (x_E0 X) w L ∧ z_oks (x_E0 X) w st ∧ lv_has ls (x_n X) (L.map (fun q => (q.1, z_cv ad q.2))) ∧ cells + kC ≤ x_mc X ∧ slots + kS ≤ x_ms X
def z_V (X : z_X) (kC kS : Nat) (w : z_w) (pc : Nat) (L : List (Nat × z_v)) (st : List z_v) : Prop :=
  ∀ (ad : z_T → Nat) (ts : List z_T) (H : Heap) (locs : List Loc) (ls : Array Slot) (cells slots : Nat), z_at X ad ts H locs ls cells slots kC kS w L st → z_W X H locs cells slots pc ls (st.map (z_cv ad))
def z_nest : Cond → Bool
  | .fieldLinkNest .. => true
  | .methodLinkNest .. => true
  | .arrayOver (.object _) => true
  | _ => false
def z_tys (dA : Nat → ClassId) : List (ClassId × FieldType) := [(dA 0, z_kt 0), (dA 1, z_kt 1), (dA 2, z_kt 2), (dA 3, z_kt 3), (dA 4, z_kt 4), (dA 5, z_kt 5)]
/-- what the tables say, and which class has which number -/
def z_K (D : va_G) (dA : Nat → ClassId) (U : State) : Prop := va_K D vwCl (z_tys dA) U ∧ (∀ w ∈ lw_tbl, goodWord w = true → ∀ a, w.before a U = true) ∧ ∀ w ∈ lw_tbl, z_nest w = true → w.before #[] U = true
theorem z_nest_moved {w : Cond} (hn : z_nest w = true) {s U : State} (hW : s.WarmedH U.vm) (h : w.before #[] s = true) : w.before #[] U = true := by
  match w, hn, h with
  | .fieldLinkNest a i b n d hh, _, h => exact va_Nw.warmF hW h
  | .methodLinkNest a i x hh, _, h => exact va_Nw.warmM hW h
  | .arrayOver (.object C), _, h => exact va_AO.moved (u := s) hW.alike h
theorem z_K.moved {D : va_G} {dA : Nat → ClassId} {s U : State} (hW : s.WarmedH U.vm) (h : z_K D dA s) : z_K D dA U :=
  ⟨va_K.moved hW.alike h.1, fun w hw hg a => word_at hW (good_of_word hg) (h.2.1 w hw hg #[]), fun w hw hn => z_nest_moved hn hW (h.2.2 w hw hn)⟩
theorem z_K.same {D : va_G} {dA : Nat → ClassId} {s U : State} (hvm : U.vm = s.vm) (h : z_K D dA s) : z_K D dA U := z_K.moved (by rw [hvm]; exact State.WarmedH.refl s) h
def z_rm (d mc ms : Nat) : Room := { frames := d, cells := mc, slots := ms, locals := 100 * d }
/-- the cells that a method may write: its world's, and those that it makes -/
def z_fre (w : z_w) (ad : z_T → Nat) (sz : Nat) : Addr → Prop := fun q => (∃ t, w t ≠ none ∧ ad t = q) ∨ sz ≤ q
def z_Qc (D : va_G) (dA : Nat → ClassId) (ad : z_T → Nat) (w : z_w) (sz : Nat) (Po : Option z_v → z_w → Prop) : Array Value → State → Outcome → State → Prop := fun _ st o t =>
  (∃ (r : Option z_v) (w' : z_w) (ad' : z_T → Nat) (ts' : List z_T), o = .returned (r.map (z_cv ad')) ∧ Po r w' ∧ z_oks (fun _ => False) w' r.toList ∧ z_St D dA (z_fre w ad sz) ad' w' ts' t.heap ∧ ∀ q, w q ≠ none → w' q ≠ none ∧ ad' q = ad q) ∧ va_F (z_fre w ad sz) st t
/-- a method's contract: from the world w, with these arguments, it comes to an answer and a world with Po; it makes at most mc cells of ms slots -/
def z_M (G : z_G) (y : MethodName) (cc : ByteArray) (nL : Nat) (ret : Option FieldType) (d mc ms : Nat) (args : List z_v) (w : z_w) (Po : Option z_v → z_w → Prop) : Prop :=
  ∀ (ad : z_T → Nat) (ts : List z_T) (sz : Nat), Met G.1 y [.code y cc nL ret] (z_rm d mc ms) (va_Pc (args.map (z_cv ad)) (fun U => U.heap.size = sz ∧ z_oks (fun _ => False) w args ∧ z_St G.2.1 G.2.2 (fun _ => True) ad w ts U.heap ∧ z_K G.2.1 G.2.2 U)) (z_Qc G.2.1 G.2.2 ad w sz Po) mc ms (z_fre w ad sz)
theorem z_M.imp {G : z_G} {y : MethodName} {cc : ByteArray} {nL : Nat} {ret : Option FieldType} {d mc ms : Nat} {args : List z_v} {w : z_w} {Po Po' : Option z_v → z_w → Prop} (h : z_M G y cc nL ret d mc ms args w Po) (hi : ∀ r w', Po r w' → Po' r w') : z_M G y cc nL ret d mc ms args w Po' := by
  intro ad ts sz p e ha hc hk s m a below hf happ hpre hb
  obtain ⟨k, o, h1, h2, h3, ⟨⟨r, w', ad', ts', e1, e2, e3⟩, e4⟩, h5⟩ := h ad ts sz p e ha hc hk s m a below hf happ hpre hb
  exact ⟨k, o, h1, h2, h3, ⟨⟨r, w', ad', ts', e1, hi _ _ e2, e3⟩, e4⟩, h5⟩
/-- what every row needs of the context -/
def z_H (X : z_X) (cc : ByteArray) (own : String) (d : Nat) : Prop :=
  (x_p X).tables.exec = Jvm.exec ∧ (x_c X).code = cc ∧ (x_s X).vm.findClass own = some (x_m X).cls ∧ z_K (x_D X) (x_dA X) (x_s X) ∧ ((x_R X).cells = x_mc X ∧ (x_R X).slots = x_ms X ∧ d ≤ (x_R X).frames ∧ 100 * d ≤ (x_R X).locals ∧ 1 ≤ d) ∧ (∀ q, (x_H0 X).size ≤ q → x_A X q) ∧ (x_c X).maxLocals = x_n X
section ZR
variable {X : z_X} {cc : ByteArray} {own : String} {d kC kS : Nat} {w : z_w} {pc : Nat} {L : List (Nat × z_v)} {st : List z_v}
theorem z_H.ts (h : z_H X cc own d) : ∀ w ∈ lw_tbl.filter goodWord, w.before (x_a X) (x_s X) = true := fun w hw => h.2.2.2.1.2.1 w (List.mem_filter.mp hw).1 (List.mem_filter.mp hw).2 _
theorem z_H.word (h : z_H X cc own d) {w : Cond} (hw : w ∈ lw_tbl) (hg : goodWord w = true) : w.before (x_a X) (x_s X) = true := h.2.2.2.1.2.1 w hw hg _
/-- fewer is needed further on -/
theorem z_less {kC' kS' : Nat} (h1 : kC' ≤ kC) (h2 : kS' ≤ kS) (k : z_V X kC' kS' w pc L st) : z_V X kC kS w pc L st := fun ad ts H locs ls cells slots ⟨a1, a2, a3, a4, a5, a6, a7, a8, a9⟩ => k ad ts H locs ls cells slots ⟨a1, a2, a3, a4, a5, a6, a7, Nat.le_trans (Nat.add_le_add_left h1 _) a8, Nat.le_trans (Nat.add_le_add_left h2 _) a9⟩
theorem z_beq (a b : Nat) : Nat.beq a b = decide (a = b) := by
  by_cases h : a = b
  · subst h; simp
  · rw [decide_eq_false h]
    cases e : Nat.beq a b with
    | false => rfl
    | true => exact absurd (Nat.eq_of_beq_eq_true e) h
def z_lk : List (Nat × z_v) → Nat → Option z_v
  | [], _ => none
  | q :: r, i => bif Nat.beq q.1 i then some q.2 else z_lk r i
def z_c2 : z_v → Bool
  | .inr (.inl _) => true
  | _ => false
def z_rm1 (i : Nat) (L : List (Nat × z_v)) : List (Nat × z_v) := L.filter (fun q => !(Nat.beq q.1 i) && !(Nat.beq (q.1 + 1) i && z_c2 q.2))
def z_rm2 (i : Nat) (L : List (Nat × z_v)) : List (Nat × z_v) := L.filter (fun q => !(Nat.beq q.1 i) && (!(Nat.beq q.1 (i + 1)) && !(Nat.beq (q.1 + 1) i && z_c2 q.2)))
theorem z_lk_mem : ∀ {L : List (Nat × z_v)} {i : Nat} {v : z_v}, z_lk L i = some v → (i, v) ∈ L
  | [], _, _, h => by cases h
  | q :: r, i, v, h => by
    by_cases e : q.1 = i
    · subst e
      have : z_lk (q :: r) q.1 = some q.2 := by simp [z_lk]
      rw [this] at h
      cases h
      exact List.mem_cons_self
    · have : z_lk (q :: r) i = z_lk r i := by simp [z_lk, z_beq, e]
      rw [this] at h
      exact List.mem_cons_of_mem _ (z_lk_mem h)
theorem z_cat (ad : z_T → Nat) (v : z_v) : (z_cv ad v).category = if z_c2 v = true then 2 else 1 := by
  match v with
  | .inl _ => rfl
  | .inr (.inl _) => rfl
  | .inr (.inr none) => rfl
  | .inr (.inr (some t)) => rfl
theorem lv_has_sub {ls : Array Slot} {n : Nat} {l l' : List (Nat × Value)} (h : lv_has ls n l) (hs : ∀ q ∈ l', q ∈ l) : lv_has ls n l' := ⟨h.1, h.2.1, fun q hq => h.2.2 q (hs q hq)⟩
theorem z_mapmem {ad : z_T → Nat} {i : Nat} {v : z_v} (h : (i, v) ∈ L) : (i, z_cv ad v) ∈ L.map (fun q => (q.1, z_cv ad q.2)) := List.mem_map.mpr ⟨(i, v), h, rfl⟩
theorem z_put1 {ad : z_T → Nat} {ls : Array Slot} {i : Nat} {v : z_v} (h : lv_has ls (x_n X) ((i, z_cv ad v) :: (L.map (fun q => (q.1, z_cv ad q.2))).filter (fun q => !(q.1 == i) && !(q.1 + 1 == i && q.2.category == 2)))) : lv_has ls (x_n X) (((i, v) :: z_rm1 i L).map (fun q => (q.1, z_cv ad q.2))) := by
  refine lv_has_sub h fun q hq => ?_
  obtain ⟨r, hr, rfl⟩ := List.mem_map.mp hq
  rcases List.mem_cons.mp hr with rfl | hr
  · exact List.mem_cons_self
  · refine List.mem_cons_of_mem _ (List.mem_filter.mpr ⟨List.mem_map.mpr ⟨r, (List.mem_filter.mp hr).1, rfl⟩, ?_⟩)
    have := (List.mem_filter.mp hr).2
    simp only [z_beq] at this
    simp only [z_cat]
    by_cases hc : z_c2 r.2 = true <;> simp_all
theorem z_put2 {ad : z_T → Nat} {ls : Array Slot} {i : Nat} {v : z_v} (h : lv_has ls (x_n X) ((i, z_cv ad v) :: (L.map (fun q => (q.1, z_cv ad q.2))).filter (fun q => !(q.1 == i) && (!(q.1 == i + 1) && !(q.1 + 1 == i && q.2.category == 2))))) : lv_has ls (x_n X) (((i, v) :: z_rm2 i L).map (fun q => (q.1, z_cv ad q.2))) := by
  refine lv_has_sub h fun q hq => ?_
  obtain ⟨r, hr, rfl⟩ := List.mem_map.mp hq
  rcases List.mem_cons.mp hr with rfl | hr
  · exact List.mem_cons_self
  · refine List.mem_cons_of_mem _ (List.mem_filter.mpr ⟨List.mem_map.mpr ⟨r, (List.mem_filter.mp hr).1, rfl⟩, ?_⟩)
    have := (List.mem_filter.mp hr).2
    simp only [z_beq] at this
    simp only [z_cat]
    by_cases hc : z_c2 r.2 = true <;> simp_all
theorem z_okl_put {E0 : z_T → Prop} {i : Nat} {v : z_v} {f : Nat × z_v → Bool} (h : z_okl E0 w L) (hv : z_okv E0 w v) : z_okl E0 w ((i, v) :: L.filter f) := fun q hq => by
  rcases List.mem_cons.mp hq with rfl | hq
  · exact hv
  · exact h q (List.mem_filter.mp hq).1
/-- other locals: those that are there under these numbers -/
def z_subl (L : List (Nat × z_v)) : List (Nat × z_v) → Prop
  | [] => True
  | q :: r => z_lk L q.1 = some q.2 ∧ z_subl L r
theorem z_subl_mem {L : List (Nat × z_v)} : ∀ {L' : List (Nat × z_v)}, z_subl L L' → ∀ q ∈ L', q ∈ L
  | [], _, q, h => by cases h
  | a :: r, h, q, hq => by
    rcases List.mem_cons.mp hq with rfl | hq
    · exact z_lk_mem h.1
    · exact z_subl_mem h.2 q hq
theorem z_loc (L' : List (Nat × z_v)) (hs : z_subl L L') (k : z_V X kC kS w pc L' st) : z_V X kC kS w pc L st := fun ad ts H locs ls cells slots ⟨h1, h2, h3, h4, h5, h6, h7, h8⟩ =>
  k ad ts H locs ls cells slots ⟨h1, h2, h3, h4, fun q hq => h5 q (z_subl_mem hs q hq), h6, lv_has_sub h7 (fun q hq => by obtain ⟨r, hr, rfl⟩ := List.mem_map.mp hq; exact List.mem_map.mpr ⟨r, z_subl_mem hs r hr, rfl⟩), h8⟩
/-- the world by an equal one -/
theorem z_weq {w' : z_w} (e : w = w') (k : z_V X kC kS w' pc L st) : z_V X kC kS w pc L st := e ▸ k
theorem z_pc {pc' : Nat} (e : pc = pc') (k : z_V X kC kS w pc' L st) : z_V X kC kS w pc L st := e ▸ k
theorem z_iconst {n : Int} {v : Int32} (h : z_H X cc own d) (hd : decode cc pc = .ok (.iconst n, 1)) (hv : Int32.ofInt n = v) (k : z_V X kC kS w (pc + 1) L (vi v :: st)) : z_V X kC kS w pc L (st) := fun ad ts H locs ls cells slots ⟨h1, h2, h3, h4, h5, h6, h7, h8⟩ =>
  lv_iconst h.1 h.2.1 hd hv (k ad ts H locs ls cells slots ⟨h1, h2, h3, h4, h5, ⟨trivial, h6⟩, h7, h8⟩)
theorem z_bipush {n : Int} {v : Int32} (h : z_H X cc own d) (hd : decode cc pc = .ok (.bipush n, 2)) (hv : (Int8.ofInt n).toInt32 = v) (k : z_V X kC kS w (pc + 2) L (vi v :: st)) : z_V X kC kS w pc L (st) := fun ad ts H locs ls cells slots ⟨h1, h2, h3, h4, h5, h6, h7, h8⟩ =>
  lv_bipush h.1 h.2.1 hd hv (k ad ts H locs ls cells slots ⟨h1, h2, h3, h4, h5, ⟨trivial, h6⟩, h7, h8⟩)
theorem z_sipush {n : Int} {v : Int32} (h : z_H X cc own d) (hd : decode cc pc = .ok (.sipush n, 3)) (hv : (Int16.ofInt n).toInt32 = v) (k : z_V X kC kS w (pc + 3) L (vi v :: st)) : z_V X kC kS w pc L (st) := fun ad ts H locs ls cells slots ⟨h1, h2, h3, h4, h5, h6, h7, h8⟩ =>
  lv_sipush h.1 h.2.1 hd hv (k ad ts H locs ls cells slots ⟨h1, h2, h3, h4, h5, ⟨trivial, h6⟩, h7, h8⟩)
theorem z_lconst {n : Fin 2} {v : Int64} (h : z_H X cc own d) (hd : decode cc pc = .ok (.lconst n, 1)) (hv : Int64.ofNat (n : Nat) = v) (k : z_V X kC kS w (pc + 1) L (vl v :: st)) : z_V X kC kS w pc L (st) := fun ad ts H locs ls cells slots ⟨h1, h2, h3, h4, h5, h6, h7, h8⟩ =>
  lv_lconst h.1 h.2.1 hd hv (k ad ts H locs ls cells slots ⟨h1, h2, h3, h4, h5, ⟨trivial, h6⟩, h7, h8⟩)
theorem z_null (h : z_H X cc own d) (hd : decode cc pc = .ok (.aconst_null, 1)) (k : z_V X kC kS w (pc + 1) L (vn :: st)) : z_V X kC kS w pc L (st) := fun ad ts H locs ls cells slots ⟨h1, h2, h3, h4, h5, h6, h7, h8⟩ =>
  lv_null h.1 h.2.1 hd (k ad ts H locs ls cells slots ⟨h1, h2, h3, h4, h5, ⟨trivial, h6⟩, h7, h8⟩)
theorem z_iload_n {j : Fin 4} {x : Int32} (h : z_H X cc own d) (hd : decode cc pc = .ok (.iload_n j, 1)) (hl : z_lk L (j : Nat) = some (vi x)) (k : z_V X kC kS w (pc + 1) L (vi x :: st)) : z_V X kC kS w pc L (st) := fun ad ts H locs ls cells slots ⟨h1, h2, h3, h4, h5, h6, h7, h8⟩ =>
  lv_iload_n h.1 h.2.1 hd rfl (h7.2.2 _ (z_mapmem (z_lk_mem hl))) (k ad ts H locs ls cells slots ⟨h1, h2, h3, h4, h5, ⟨trivial, h6⟩, h7, h8⟩)
theorem z_iload {j : Nat} {x : Int32} (h : z_H X cc own d) (hd : decode cc pc = .ok (.iload j, 2)) (hl : z_lk L j = some (vi x)) (k : z_V X kC kS w (pc + 2) L (vi x :: st)) : z_V X kC kS w pc L (st) := fun ad ts H locs ls cells slots ⟨h1, h2, h3, h4, h5, h6, h7, h8⟩ =>
  lv_iload h.1 h.2.1 hd (h7.2.2 _ (z_mapmem (z_lk_mem hl))) (k ad ts H locs ls cells slots ⟨h1, h2, h3, h4, h5, ⟨trivial, h6⟩, h7, h8⟩)
theorem z_lload_n {j : Fin 4} {x : Int64} (h : z_H X cc own d) (hd : decode cc pc = .ok (.lload_n j, 1)) (hl : z_lk L (j : Nat) = some (vl x)) (k : z_V X kC kS w (pc + 1) L (vl x :: st)) : z_V X kC kS w pc L (st) := fun ad ts H locs ls cells slots ⟨h1, h2, h3, h4, h5, h6, h7, h8⟩ =>
  lv_lload_n h.1 h.2.1 hd rfl (h7.2.2 _ (z_mapmem (z_lk_mem hl))) (k ad ts H locs ls cells slots ⟨h1, h2, h3, h4, h5, ⟨trivial, h6⟩, h7, h8⟩)
theorem z_lload {j : Nat} {x : Int64} (h : z_H X cc own d) (hd : decode cc pc = .ok (.lload j, 2)) (hl : z_lk L j = some (vl x)) (k : z_V X kC kS w (pc + 2) L (vl x :: st)) : z_V X kC kS w pc L (st) := fun ad ts H locs ls cells slots ⟨h1, h2, h3, h4, h5, h6, h7, h8⟩ =>
  lv_lload h.1 h.2.1 hd (h7.2.2 _ (z_mapmem (z_lk_mem hl))) (k ad ts H locs ls cells slots ⟨h1, h2, h3, h4, h5, ⟨trivial, h6⟩, h7, h8⟩)
theorem z_aload_n {j : Fin 4} {t : z_T} (h : z_H X cc own d) (hd : decode cc pc = .ok (.aload_n j, 1)) (hl : z_lk L (j : Nat) = some (vr t)) (k : z_V X kC kS w (pc + 1) L (vr t :: st)) : z_V X kC kS w pc L (st) := fun ad ts H locs ls cells slots ⟨h1, h2, h3, h4, h5, h6, h7, h8⟩ =>
  lv_aload_n h.1 h.2.1 hd rfl (h7.2.2 _ (z_mapmem (z_lk_mem hl))) (k ad ts H locs ls cells slots ⟨h1, h2, h3, h4, h5, ⟨h5 _ (z_lk_mem hl), h6⟩, h7, h8⟩)
theorem z_aload {j : Nat} {t : z_T} (h : z_H X cc own d) (hd : decode cc pc = .ok (.aload j, 2)) (hl : z_lk L j = some (vr t)) (k : z_V X kC kS w (pc + 2) L (vr t :: st)) : z_V X kC kS w pc L (st) := fun ad ts H locs ls cells slots ⟨h1, h2, h3, h4, h5, h6, h7, h8⟩ =>
  lv_aload h.1 h.2.1 hd (h7.2.2 _ (z_mapmem (z_lk_mem hl))) (k ad ts H locs ls cells slots ⟨h1, h2, h3, h4, h5, ⟨h5 _ (z_lk_mem hl), h6⟩, h7, h8⟩)
theorem z_aload_nN {j : Fin 4} (h : z_H X cc own d) (hd : decode cc pc = .ok (.aload_n j, 1)) (hl : z_lk L (j : Nat) = some vn) (k : z_V X kC kS w (pc + 1) L (vn :: st)) : z_V X kC kS w pc L (st) := fun ad ts H locs ls cells slots ⟨h1, h2, h3, h4, h5, h6, h7, h8⟩ =>
  lv_aload_nN h.1 h.2.1 hd rfl (h7.2.2 _ (z_mapmem (z_lk_mem hl))) (k ad ts H locs ls cells slots ⟨h1, h2, h3, h4, h5, ⟨trivial, h6⟩, h7, h8⟩)
theorem z_aloadN {j : Nat} (h : z_H X cc own d) (hd : decode cc pc = .ok (.aload j, 2)) (hl : z_lk L j = some vn) (k : z_V X kC kS w (pc + 2) L (vn :: st)) : z_V X kC kS w pc L (st) := fun ad ts H locs ls cells slots ⟨h1, h2, h3, h4, h5, h6, h7, h8⟩ =>
  lv_aloadN h.1 h.2.1 hd (h7.2.2 _ (z_mapmem (z_lk_mem hl))) (k ad ts H locs ls cells slots ⟨h1, h2, h3, h4, h5, ⟨trivial, h6⟩, h7, h8⟩)
theorem z_istore_n {j : Fin 4} {x : Int32} (h : z_H X cc own d) (hd : decode cc pc = .ok (.istore_n j, 1)) (hn : (j : Nat) < x_n X) (k : z_V X kC kS w (pc + 1) (((j : Nat), vi x) :: z_rm1 (j : Nat) L) st) : z_V X kC kS w pc L (vi x :: st) := fun ad ts H locs ls cells slots ⟨h1, h2, h3, h4, h5, h6, h7, h8⟩ =>
  lv_istore_n h.1 h.2.1 hd rfl h7 hn rfl (fun ls' h' => k ad ts H locs ls' cells slots ⟨h1, h2, h3, h4, z_okl_put h5 h6.1, h6.2, z_put1 h', h8⟩)
theorem z_istore {j : Nat} {x : Int32} (h : z_H X cc own d) (hd : decode cc pc = .ok (.istore j, 2)) (hn : j < x_n X) (k : z_V X kC kS w (pc + 2) ((j, vi x) :: z_rm1 j L) st) : z_V X kC kS w pc L (vi x :: st) := fun ad ts H locs ls cells slots ⟨h1, h2, h3, h4, h5, h6, h7, h8⟩ =>
  lv_istore h.1 h.2.1 hd h7 hn rfl (fun ls' h' => k ad ts H locs ls' cells slots ⟨h1, h2, h3, h4, z_okl_put h5 h6.1, h6.2, z_put1 h', h8⟩)
theorem z_lstore_n {j : Fin 4} {x : Int64} (h : z_H X cc own d) (hd : decode cc pc = .ok (.lstore_n j, 1)) (hn : (j : Nat) + 1 < x_n X) (k : z_V X kC kS w (pc + 1) (((j : Nat), vl x) :: z_rm2 (j : Nat) L) st) : z_V X kC kS w pc L (vl x :: st) := fun ad ts H locs ls cells slots ⟨h1, h2, h3, h4, h5, h6, h7, h8⟩ =>
  lv_lstore_n h.1 h.2.1 hd rfl h7 hn rfl (fun ls' h' => k ad ts H locs ls' cells slots ⟨h1, h2, h3, h4, z_okl_put h5 h6.1, h6.2, z_put2 h', h8⟩)
theorem z_lstore {j : Nat} {x : Int64} (h : z_H X cc own d) (hd : decode cc pc = .ok (.lstore j, 2)) (hn : j + 1 < x_n X) (k : z_V X kC kS w (pc + 2) ((j, vl x) :: z_rm2 j L) st) : z_V X kC kS w pc L (vl x :: st) := fun ad ts H locs ls cells slots ⟨h1, h2, h3, h4, h5, h6, h7, h8⟩ =>
  lv_lstore h.1 h.2.1 hd h7 hn rfl (fun ls' h' => k ad ts H locs ls' cells slots ⟨h1, h2, h3, h4, z_okl_put h5 h6.1, h6.2, z_put2 h', h8⟩)
theorem z_astore_n {j : Fin 4} {t : z_T} (h : z_H X cc own d) (hd : decode cc pc = .ok (.astore_n j, 1)) (hn : (j : Nat) < x_n X) (k : z_V X kC kS w (pc + 1) (((j : Nat), vr t) :: z_rm1 (j : Nat) L) st) : z_V X kC kS w pc L (vr t :: st) := fun ad ts H locs ls cells slots ⟨h1, h2, h3, h4, h5, h6, h7, h8⟩ =>
  lv_astore_n h.1 h.2.1 hd rfl h7 hn rfl (fun ls' h' => k ad ts H locs ls' cells slots ⟨h1, h2, h3, h4, z_okl_put h5 h6.1, h6.2, z_put1 h', h8⟩)
theorem z_astore {j : Nat} {t : z_T} (h : z_H X cc own d) (hd : decode cc pc = .ok (.astore j, 2)) (hn : j < x_n X) (k : z_V X kC kS w (pc + 2) ((j, vr t) :: z_rm1 j L) st) : z_V X kC kS w pc L (vr t :: st) := fun ad ts H locs ls cells slots ⟨h1, h2, h3, h4, h5, h6, h7, h8⟩ =>
  lv_astore h.1 h.2.1 hd h7 hn rfl (fun ls' h' => k ad ts H locs ls' cells slots ⟨h1, h2, h3, h4, z_okl_put h5 h6.1, h6.2, z_put1 h', h8⟩)
theorem z_astore_nN {j : Fin 4} (h : z_H X cc own d) (hd : decode cc pc = .ok (.astore_n j, 1)) (hn : (j : Nat) < x_n X) (k : z_V X kC kS w (pc + 1) (((j : Nat), vn) :: z_rm1 (j : Nat) L) st) : z_V X kC kS w pc L (vn :: st) := fun ad ts H locs ls cells slots ⟨h1, h2, h3, h4, h5, h6, h7, h8⟩ =>
  lv_astore_nN h.1 h.2.1 hd rfl h7 hn rfl (fun ls' h' => k ad ts H locs ls' cells slots ⟨h1, h2, h3, h4, z_okl_put h5 h6.1, h6.2, z_put1 h', h8⟩)
theorem z_astoreN {j : Nat} (h : z_H X cc own d) (hd : decode cc pc = .ok (.astore j, 2)) (hn : j < x_n X) (k : z_V X kC kS w (pc + 2) ((j, vn) :: z_rm1 j L) st) : z_V X kC kS w pc L (vn :: st) := fun ad ts H locs ls cells slots ⟨h1, h2, h3, h4, h5, h6, h7, h8⟩ =>
  lv_astoreN h.1 h.2.1 hd h7 hn rfl (fun ls' h' => k ad ts H locs ls' cells slots ⟨h1, h2, h3, h4, z_okl_put h5 h6.1, h6.2, z_put1 h', h8⟩)
theorem z_iinc {j : Nat} {n : Int} {x v : Int32} (h : z_H X cc own d) (hd : decode cc pc = .ok (.iinc j n, 3)) (hl : z_lk L j = some (vi x)) (hv : Int32.ofInt n = v) (hn : j < x_n X) (k : z_V X kC kS w (pc + 3) ((j, vi (x + v)) :: z_rm1 j L) st) : z_V X kC kS w pc L st := fun ad ts H locs ls cells slots ⟨h1, h2, h3, h4, h5, h6, h7, h8⟩ => by
  obtain ⟨i, hi⟩ := List.getElem?_of_mem (z_mapmem (ad := ad) (z_lk_mem hl))
  exact lv_iinc h.1 h.2.1 hd h7 hi (by rw [hv]) hn rfl (fun ls' h' => k ad ts H locs ls' cells slots ⟨h1, h2, h3, h4, z_okl_put h5 trivial, h6, z_put1 h', h8⟩)
theorem z_iadd {x y : Int32} (h : z_H X cc own d) (hd : decode cc pc = .ok (.iadd, 1)) (k : z_V X kC kS w (pc + 1) L (vi (x + y) :: st)) : z_V X kC kS w pc L (vi y :: vi x :: st) := fun ad ts H locs ls cells slots ⟨h1, h2, h3, h4, h5, h6, h7, h8⟩ =>
  lv_iadd h.1 h.2.1 hd (k ad ts H locs ls cells slots ⟨h1, h2, h3, h4, h5, ⟨trivial, h6.2.2⟩, h7, h8⟩)
theorem z_isub {x y : Int32} (h : z_H X cc own d) (hd : decode cc pc = .ok (.isub, 1)) (k : z_V X kC kS w (pc + 1) L (vi (x - y) :: st)) : z_V X kC kS w pc L (vi y :: vi x :: st) := fun ad ts H locs ls cells slots ⟨h1, h2, h3, h4, h5, h6, h7, h8⟩ =>
  lv_isub h.1 h.2.1 hd (k ad ts H locs ls cells slots ⟨h1, h2, h3, h4, h5, ⟨trivial, h6.2.2⟩, h7, h8⟩)
theorem z_imul {x y : Int32} (h : z_H X cc own d) (hd : decode cc pc = .ok (.imul, 1)) (k : z_V X kC kS w (pc + 1) L (vi (x * y) :: st)) : z_V X kC kS w pc L (vi y :: vi x :: st) := fun ad ts H locs ls cells slots ⟨h1, h2, h3, h4, h5, h6, h7, h8⟩ =>
  lv_imul h.1 h.2.1 hd (k ad ts H locs ls cells slots ⟨h1, h2, h3, h4, h5, ⟨trivial, h6.2.2⟩, h7, h8⟩)
theorem z_iand {x y : Int32} (h : z_H X cc own d) (hd : decode cc pc = .ok (.iand, 1)) (k : z_V X kC kS w (pc + 1) L (vi (x &&& y) :: st)) : z_V X kC kS w pc L (vi y :: vi x :: st) := fun ad ts H locs ls cells slots ⟨h1, h2, h3, h4, h5, h6, h7, h8⟩ =>
  lv_iand h.1 h.2.1 hd (k ad ts H locs ls cells slots ⟨h1, h2, h3, h4, h5, ⟨trivial, h6.2.2⟩, h7, h8⟩)
theorem z_ior {x y : Int32} (h : z_H X cc own d) (hd : decode cc pc = .ok (.ior, 1)) (k : z_V X kC kS w (pc + 1) L (vi (x ||| y) :: st)) : z_V X kC kS w pc L (vi y :: vi x :: st) := fun ad ts H locs ls cells slots ⟨h1, h2, h3, h4, h5, h6, h7, h8⟩ =>
  lv_ior h.1 h.2.1 hd (k ad ts H locs ls cells slots ⟨h1, h2, h3, h4, h5, ⟨trivial, h6.2.2⟩, h7, h8⟩)
theorem z_ixor {x y : Int32} (h : z_H X cc own d) (hd : decode cc pc = .ok (.ixor, 1)) (k : z_V X kC kS w (pc + 1) L (vi (x ^^^ y) :: st)) : z_V X kC kS w pc L (vi y :: vi x :: st) := fun ad ts H locs ls cells slots ⟨h1, h2, h3, h4, h5, h6, h7, h8⟩ =>
  lv_ixor h.1 h.2.1 hd (k ad ts H locs ls cells slots ⟨h1, h2, h3, h4, h5, ⟨trivial, h6.2.2⟩, h7, h8⟩)
theorem z_ladd {x y : Int64} (h : z_H X cc own d) (hd : decode cc pc = .ok (.ladd, 1)) (k : z_V X kC kS w (pc + 1) L (vl (x + y) :: st)) : z_V X kC kS w pc L (vl y :: vl x :: st) := fun ad ts H locs ls cells slots ⟨h1, h2, h3, h4, h5, h6, h7, h8⟩ =>
  lv_ladd h.1 h.2.1 hd (k ad ts H locs ls cells slots ⟨h1, h2, h3, h4, h5, ⟨trivial, h6.2.2⟩, h7, h8⟩)
theorem z_lsub {x y : Int64} (h : z_H X cc own d) (hd : decode cc pc = .ok (.lsub, 1)) (k : z_V X kC kS w (pc + 1) L (vl (x - y) :: st)) : z_V X kC kS w pc L (vl y :: vl x :: st) := fun ad ts H locs ls cells slots ⟨h1, h2, h3, h4, h5, h6, h7, h8⟩ =>
  lv_lsub h.1 h.2.1 hd (k ad ts H locs ls cells slots ⟨h1, h2, h3, h4, h5, ⟨trivial, h6.2.2⟩, h7, h8⟩)
theorem z_lmul {x y : Int64} (h : z_H X cc own d) (hd : decode cc pc = .ok (.lmul, 1)) (k : z_V X kC kS w (pc + 1) L (vl (x * y) :: st)) : z_V X kC kS w pc L (vl y :: vl x :: st) := fun ad ts H locs ls cells slots ⟨h1, h2, h3, h4, h5, h6, h7, h8⟩ =>
  lv_lmul h.1 h.2.1 hd (k ad ts H locs ls cells slots ⟨h1, h2, h3, h4, h5, ⟨trivial, h6.2.2⟩, h7, h8⟩)
theorem z_idiv {x y : Int32} (h : z_H X cc own d) (hd : decode cc pc = .ok (.idiv, 1)) (hne : ¬ y = 0) (k : z_V X kC kS w (pc + 1) L (vi (x / y) :: st)) : z_V X kC kS w pc L (vi y :: vi x :: st) := fun ad ts H locs ls cells slots ⟨h1, h2, h3, h4, h5, h6, h7, h8⟩ =>
  lv_idiv h.1 h.2.1 hd hne (k ad ts H locs ls cells slots ⟨h1, h2, h3, h4, h5, ⟨trivial, h6.2.2⟩, h7, h8⟩)
theorem z_irem {x y : Int32} (h : z_H X cc own d) (hd : decode cc pc = .ok (.irem, 1)) (hne : ¬ y = 0) (k : z_V X kC kS w (pc + 1) L (vi (x - x / y * y) :: st)) : z_V X kC kS w pc L (vi y :: vi x :: st) := fun ad ts H locs ls cells slots ⟨h1, h2, h3, h4, h5, h6, h7, h8⟩ =>
  lv_irem h.1 h.2.1 hd hne (k ad ts H locs ls cells slots ⟨h1, h2, h3, h4, h5, ⟨trivial, h6.2.2⟩, h7, h8⟩)
theorem z_ldiv {x y : Int64} (h : z_H X cc own d) (hd : decode cc pc = .ok (.ldiv, 1)) (hne : ¬ y = 0) (k : z_V X kC kS w (pc + 1) L (vl (x / y) :: st)) : z_V X kC kS w pc L (vl y :: vl x :: st) := fun ad ts H locs ls cells slots ⟨h1, h2, h3, h4, h5, h6, h7, h8⟩ =>
  lv_ldiv h.1 h.2.1 hd hne (k ad ts H locs ls cells slots ⟨h1, h2, h3, h4, h5, ⟨trivial, h6.2.2⟩, h7, h8⟩)
theorem z_lrem {x y : Int64} (h : z_H X cc own d) (hd : decode cc pc = .ok (.lrem, 1)) (hne : ¬ y = 0) (k : z_V X kC kS w (pc + 1) L (vl (x - x / y * y) :: st)) : z_V X kC kS w pc L (vl y :: vl x :: st) := fun ad ts H locs ls cells slots ⟨h1, h2, h3, h4, h5, h6, h7, h8⟩ =>
  lv_lrem h.1 h.2.1 hd hne (k ad ts H locs ls cells slots ⟨h1, h2, h3, h4, h5, ⟨trivial, h6.2.2⟩, h7, h8⟩)
theorem z_ineg {x : Int32} (h : z_H X cc own d) (hd : decode cc pc = .ok (.ineg, 1)) (k : z_V X kC kS w (pc + 1) L (vi (-x) :: st)) : z_V X kC kS w pc L (vi x :: st) := fun ad ts H locs ls cells slots ⟨h1, h2, h3, h4, h5, h6, h7, h8⟩ =>
  lv_ineg h.1 h.2.1 hd (k ad ts H locs ls cells slots ⟨h1, h2, h3, h4, h5, ⟨trivial, h6.2⟩, h7, h8⟩)
theorem z_ishl {x y : Int32} (h : z_H X cc own d) (hd : decode cc pc = .ok (.ishl, 1)) (k : z_V X kC kS w (pc + 1) L (vi (x <<< (y &&& 31)) :: st)) : z_V X kC kS w pc L (vi y :: vi x :: st) := fun ad ts H locs ls cells slots ⟨h1, h2, h3, h4, h5, h6, h7, h8⟩ =>
  lv_ishl h.1 h.2.1 hd (k ad ts H locs ls cells slots ⟨h1, h2, h3, h4, h5, ⟨trivial, h6.2.2⟩, h7, h8⟩)
theorem z_ishr {x y : Int32} (h : z_H X cc own d) (hd : decode cc pc = .ok (.ishr, 1)) (k : z_V X kC kS w (pc + 1) L (vi (x >>> (y &&& 31)) :: st)) : z_V X kC kS w pc L (vi y :: vi x :: st) := fun ad ts H locs ls cells slots ⟨h1, h2, h3, h4, h5, h6, h7, h8⟩ =>
  lv_ishr h.1 h.2.1 hd (k ad ts H locs ls cells slots ⟨h1, h2, h3, h4, h5, ⟨trivial, h6.2.2⟩, h7, h8⟩)
theorem z_iushr {x y v : Int32} (h : z_H X cc own d) (hd : decode cc pc = .ok (.iushr, 1)) (hv : (x.toUInt32 >>> (y.toUInt32 &&& Int32.toUInt32 31)).toInt32 = v) (k : z_V X kC kS w (pc + 1) L (vi v :: st)) : z_V X kC kS w pc L (vi y :: vi x :: st) := fun ad ts H locs ls cells slots ⟨h1, h2, h3, h4, h5, h6, h7, h8⟩ =>
  lv_iushr h.1 h.2.1 hd hv (k ad ts H locs ls cells slots ⟨h1, h2, h3, h4, h5, ⟨trivial, h6.2.2⟩, h7, h8⟩)
theorem z_i2l {x : Int32} (h : z_H X cc own d) (hd : decode cc pc = .ok (.i2l, 1)) (k : z_V X kC kS w (pc + 1) L (vl x.toInt64 :: st)) : z_V X kC kS w pc L (vi x :: st) := fun ad ts H locs ls cells slots ⟨h1, h2, h3, h4, h5, h6, h7, h8⟩ =>
  lv_i2l h.1 h.2.1 hd rfl (k ad ts H locs ls cells slots ⟨h1, h2, h3, h4, h5, ⟨trivial, h6.2⟩, h7, h8⟩)
theorem z_l2i {x : Int64} (h : z_H X cc own d) (hd : decode cc pc = .ok (.l2i, 1)) (k : z_V X kC kS w (pc + 1) L (vi x.toInt32 :: st)) : z_V X kC kS w pc L (vl x :: st) := fun ad ts H locs ls cells slots ⟨h1, h2, h3, h4, h5, h6, h7, h8⟩ =>
  lv_l2i h.1 h.2.1 hd rfl (k ad ts H locs ls cells slots ⟨h1, h2, h3, h4, h5, ⟨trivial, h6.2⟩, h7, h8⟩)
theorem z_lcmp {x y : Int64} (h : z_H X cc own d) (hd : decode cc pc = .ok (.lcmp, 1)) (k : z_V X kC kS w (pc + 1) L (vi (lg_cmp x y) :: st)) : z_V X kC kS w pc L (vl y :: vl x :: st) := fun ad ts H locs ls cells slots ⟨h1, h2, h3, h4, h5, h6, h7, h8⟩ =>
  W.lcmp h.1 h.2.1 hd (k ad ts H locs ls cells slots ⟨h1, h2, h3, h4, h5, ⟨trivial, h6.2.2⟩, h7, h8⟩)
theorem z_pop_i {x : Int32} (h : z_H X cc own d) (hd : decode cc pc = .ok (.pop, 1)) (k : z_V X kC kS w (pc + 1) L (st)) : z_V X kC kS w pc L (vi x :: st) := fun ad ts H locs ls cells slots ⟨h1, h2, h3, h4, h5, h6, h7, h8⟩ =>
  lv_pop h.1 h.2.1 hd rfl (k ad ts H locs ls cells slots ⟨h1, h2, h3, h4, h5, h6.2, h7, h8⟩)
theorem z_dup_i {x : Int32} (h : z_H X cc own d) (hd : decode cc pc = .ok (.dup, 1)) (k : z_V X kC kS w (pc + 1) L (vi x :: vi x :: st)) : z_V X kC kS w pc L (vi x :: st) := fun ad ts H locs ls cells slots ⟨h1, h2, h3, h4, h5, h6, h7, h8⟩ =>
  lv_dup h.1 h.2.1 hd rfl (k ad ts H locs ls cells slots ⟨h1, h2, h3, h4, h5, ⟨trivial, trivial, h6.2⟩, h7, h8⟩)
theorem z_dup_r {t : z_T} (h : z_H X cc own d) (hd : decode cc pc = .ok (.dup, 1)) (k : z_V X kC kS w (pc + 1) L (vr t :: vr t :: st)) : z_V X kC kS w pc L (vr t :: st) := fun ad ts H locs ls cells slots ⟨h1, h2, h3, h4, h5, h6, h7, h8⟩ =>
  lv_dup h.1 h.2.1 hd rfl (k ad ts H locs ls cells slots ⟨h1, h2, h3, h4, h5, ⟨h6.1, h6.1, h6.2⟩, h7, h8⟩)
theorem z_dup_x1 {t : z_T} {x : Int32} (h : z_H X cc own d) (hd : decode cc pc = .ok (.dup_x1, 1)) (k : z_V X kC kS w (pc + 1) L (vi x :: vr t :: vi x :: st)) : z_V X kC kS w pc L (vi x :: vr t :: st) := fun ad ts H locs ls cells slots ⟨h1, h2, h3, h4, h5, h6, h7, h8⟩ =>
  lv_dup_x1 h.1 h.2.1 hd rfl rfl (k ad ts H locs ls cells slots ⟨h1, h2, h3, h4, h5, ⟨trivial, h6.2.1, trivial, h6.2.2⟩, h7, h8⟩)
theorem z_dup_x2 {t : z_T} {x y : Int32} (h : z_H X cc own d) (hd : decode cc pc = .ok (.dup_x2, 1)) (k : z_V X kC kS w (pc + 1) L (vi x :: vi y :: vr t :: vi x :: st)) : z_V X kC kS w pc L (vi x :: vi y :: vr t :: st) := fun ad ts H locs ls cells slots ⟨h1, h2, h3, h4, h5, h6, h7, h8⟩ =>
  lv_dup_x2 h.1 h.2.1 hd rfl rfl rfl (k ad ts H locs ls cells slots ⟨h1, h2, h3, h4, h5, ⟨trivial, trivial, h6.2.2.1, trivial, h6.2.2.2⟩, h7, h8⟩)
theorem z_dup2_ir {t : z_T} {x : Int32} (h : z_H X cc own d) (hd : decode cc pc = .ok (.dup2, 1)) (k : z_V X kC kS w (pc + 1) L (vi x :: vr t :: vi x :: vr t :: st)) : z_V X kC kS w pc L (vi x :: vr t :: st) := fun ad ts H locs ls cells slots ⟨h1, h2, h3, h4, h5, h6, h7, h8⟩ =>
  lv_dup2_11 h.1 h.2.1 hd rfl rfl (k ad ts H locs ls cells slots ⟨h1, h2, h3, h4, h5, ⟨trivial, h6.2.1, trivial, h6.2.1, h6.2.2⟩, h7, h8⟩)
theorem z_dup2_l {x : Int64} (h : z_H X cc own d) (hd : decode cc pc = .ok (.dup2, 1)) (k : z_V X kC kS w (pc + 1) L (vl x :: vl x :: st)) : z_V X kC kS w pc L (vl x :: st) := fun ad ts H locs ls cells slots ⟨h1, h2, h3, h4, h5, h6, h7, h8⟩ =>
  lv_dup2_2 h.1 h.2.1 hd rfl (k ad ts H locs ls cells slots ⟨h1, h2, h3, h4, h5, ⟨trivial, trivial, h6.2⟩, h7, h8⟩)
theorem z_if_eq {x : Int32} {off : Int} (h : z_H X cc own d) (hd : decode cc pc = .ok (.ifCond .eq off, 3)) (tgt : Nat) (ht : (pc : Int) + off = (tgt : Int)) (kt : x = 0 → z_V X kC kS w tgt L st) (kf : ¬ x = 0 → z_V X kC kS w (pc + 3) L st) : z_V X kC kS w pc L (vi x :: st) := fun ad ts H locs ls cells slots ⟨h1, h2, h3, h4, h5, h6, h7, h8⟩ =>
  lv_if_eq h.1 h.2.1 hd ht (fun q => kt q ad ts H locs ls cells slots ⟨h1, h2, h3, h4, h5, h6.2, h7, h8⟩) (fun q => kf q ad ts H locs ls cells slots ⟨h1, h2, h3, h4, h5, h6.2, h7, h8⟩)
theorem z_icmp_eq {x y : Int32} {off : Int} (h : z_H X cc own d) (hd : decode cc pc = .ok (.if_icmp .eq off, 3)) (tgt : Nat) (ht : (pc : Int) + off = (tgt : Int)) (kt : x = y → z_V X kC kS w tgt L st) (kf : ¬ x = y → z_V X kC kS w (pc + 3) L st) : z_V X kC kS w pc L (vi y :: vi x :: st) := fun ad ts H locs ls cells slots ⟨h1, h2, h3, h4, h5, h6, h7, h8⟩ =>
  lv_icmp_eq h.1 h.2.1 hd ht (fun q => kt q ad ts H locs ls cells slots ⟨h1, h2, h3, h4, h5, h6.2.2, h7, h8⟩) (fun q => kf q ad ts H locs ls cells slots ⟨h1, h2, h3, h4, h5, h6.2.2, h7, h8⟩)
theorem z_if_ne {x : Int32} {off : Int} (h : z_H X cc own d) (hd : decode cc pc = .ok (.ifCond .ne off, 3)) (tgt : Nat) (ht : (pc : Int) + off = (tgt : Int)) (kt : ¬ x = 0 → z_V X kC kS w tgt L st) (kf : x = 0 → z_V X kC kS w (pc + 3) L st) : z_V X kC kS w pc L (vi x :: st) := fun ad ts H locs ls cells slots ⟨h1, h2, h3, h4, h5, h6, h7, h8⟩ =>
  lv_if_ne h.1 h.2.1 hd ht (fun q => kt q ad ts H locs ls cells slots ⟨h1, h2, h3, h4, h5, h6.2, h7, h8⟩) (fun q => kf q ad ts H locs ls cells slots ⟨h1, h2, h3, h4, h5, h6.2, h7, h8⟩)
theorem z_icmp_ne {x y : Int32} {off : Int} (h : z_H X cc own d) (hd : decode cc pc = .ok (.if_icmp .ne off, 3)) (tgt : Nat) (ht : (pc : Int) + off = (tgt : Int)) (kt : ¬ x = y → z_V X kC kS w tgt L st) (kf : x = y → z_V X kC kS w (pc + 3) L st) : z_V X kC kS w pc L (vi y :: vi x :: st) := fun ad ts H locs ls cells slots ⟨h1, h2, h3, h4, h5, h6, h7, h8⟩ =>
  lv_icmp_ne h.1 h.2.1 hd ht (fun q => kt q ad ts H locs ls cells slots ⟨h1, h2, h3, h4, h5, h6.2.2, h7, h8⟩) (fun q => kf q ad ts H locs ls cells slots ⟨h1, h2, h3, h4, h5, h6.2.2, h7, h8⟩)
theorem z_if_lt {x : Int32} {off : Int} (h : z_H X cc own d) (hd : decode cc pc = .ok (.ifCond .lt off, 3)) (tgt : Nat) (ht : (pc : Int) + off = (tgt : Int)) (kt : x < 0 → z_V X kC kS w tgt L st) (kf : ¬ x < 0 → z_V X kC kS w (pc + 3) L st) : z_V X kC kS w pc L (vi x :: st) := fun ad ts H locs ls cells slots ⟨h1, h2, h3, h4, h5, h6, h7, h8⟩ =>
  lv_if_lt h.1 h.2.1 hd ht (fun q => kt q ad ts H locs ls cells slots ⟨h1, h2, h3, h4, h5, h6.2, h7, h8⟩) (fun q => kf q ad ts H locs ls cells slots ⟨h1, h2, h3, h4, h5, h6.2, h7, h8⟩)
theorem z_icmp_lt {x y : Int32} {off : Int} (h : z_H X cc own d) (hd : decode cc pc = .ok (.if_icmp .lt off, 3)) (tgt : Nat) (ht : (pc : Int) + off = (tgt : Int)) (kt : x < y → z_V X kC kS w tgt L st) (kf : ¬ x < y → z_V X kC kS w (pc + 3) L st) : z_V X kC kS w pc L (vi y :: vi x :: st) := fun ad ts H locs ls cells slots ⟨h1, h2, h3, h4, h5, h6, h7, h8⟩ =>
  lv_icmp_lt h.1 h.2.1 hd ht (fun q => kt q ad ts H locs ls cells slots ⟨h1, h2, h3, h4, h5, h6.2.2, h7, h8⟩) (fun q => kf q ad ts H locs ls cells slots ⟨h1, h2, h3, h4, h5, h6.2.2, h7, h8⟩)
theorem z_if_ge {x : Int32} {off : Int} (h : z_H X cc own d) (hd : decode cc pc = .ok (.ifCond .ge off, 3)) (tgt : Nat) (ht : (pc : Int) + off = (tgt : Int)) (kt : 0 ≤ x → z_V X kC kS w tgt L st) (kf : ¬ 0 ≤ x → z_V X kC kS w (pc + 3) L st) : z_V X kC kS w pc L (vi x :: st) := fun ad ts H locs ls cells slots ⟨h1, h2, h3, h4, h5, h6, h7, h8⟩ =>
  lv_if_ge h.1 h.2.1 hd ht (fun q => kt q ad ts H locs ls cells slots ⟨h1, h2, h3, h4, h5, h6.2, h7, h8⟩) (fun q => kf q ad ts H locs ls cells slots ⟨h1, h2, h3, h4, h5, h6.2, h7, h8⟩)
theorem z_icmp_ge {x y : Int32} {off : Int} (h : z_H X cc own d) (hd : decode cc pc = .ok (.if_icmp .ge off, 3)) (tgt : Nat) (ht : (pc : Int) + off = (tgt : Int)) (kt : y ≤ x → z_V X kC kS w tgt L st) (kf : ¬ y ≤ x → z_V X kC kS w (pc + 3) L st) : z_V X kC kS w pc L (vi y :: vi x :: st) := fun ad ts H locs ls cells slots ⟨h1, h2, h3, h4, h5, h6, h7, h8⟩ =>
  lv_icmp_ge h.1 h.2.1 hd ht (fun q => kt q ad ts H locs ls cells slots ⟨h1, h2, h3, h4, h5, h6.2.2, h7, h8⟩) (fun q => kf q ad ts H locs ls cells slots ⟨h1, h2, h3, h4, h5, h6.2.2, h7, h8⟩)
theorem z_if_gt {x : Int32} {off : Int} (h : z_H X cc own d) (hd : decode cc pc = .ok (.ifCond .gt off, 3)) (tgt : Nat) (ht : (pc : Int) + off = (tgt : Int)) (kt : 0 < x → z_V X kC kS w tgt L st) (kf : ¬ 0 < x → z_V X kC kS w (pc + 3) L st) : z_V X kC kS w pc L (vi x :: st) := fun ad ts H locs ls cells slots ⟨h1, h2, h3, h4, h5, h6, h7, h8⟩ =>
  lv_if_gt h.1 h.2.1 hd ht (fun q => kt q ad ts H locs ls cells slots ⟨h1, h2, h3, h4, h5, h6.2, h7, h8⟩) (fun q => kf q ad ts H locs ls cells slots ⟨h1, h2, h3, h4, h5, h6.2, h7, h8⟩)
theorem z_icmp_gt {x y : Int32} {off : Int} (h : z_H X cc own d) (hd : decode cc pc = .ok (.if_icmp .gt off, 3)) (tgt : Nat) (ht : (pc : Int) + off = (tgt : Int)) (kt : y < x → z_V X kC kS w tgt L st) (kf : ¬ y < x → z_V X kC kS w (pc + 3) L st) : z_V X kC kS w pc L (vi y :: vi x :: st) := fun ad ts H locs ls cells slots ⟨h1, h2, h3, h4, h5, h6, h7, h8⟩ =>
  lv_icmp_gt h.1 h.2.1 hd ht (fun q => kt q ad ts H locs ls cells slots ⟨h1, h2, h3, h4, h5, h6.2.2, h7, h8⟩) (fun q => kf q ad ts H locs ls cells slots ⟨h1, h2, h3, h4, h5, h6.2.2, h7, h8⟩)
theorem z_if_le {x : Int32} {off : Int} (h : z_H X cc own d) (hd : decode cc pc = .ok (.ifCond .le off, 3)) (tgt : Nat) (ht : (pc : Int) + off = (tgt : Int)) (kt : x ≤ 0 → z_V X kC kS w tgt L st) (kf : ¬ x ≤ 0 → z_V X kC kS w (pc + 3) L st) : z_V X kC kS w pc L (vi x :: st) := fun ad ts H locs ls cells slots ⟨h1, h2, h3, h4, h5, h6, h7, h8⟩ =>
  lv_if_le h.1 h.2.1 hd ht (fun q => kt q ad ts H locs ls cells slots ⟨h1, h2, h3, h4, h5, h6.2, h7, h8⟩) (fun q => kf q ad ts H locs ls cells slots ⟨h1, h2, h3, h4, h5, h6.2, h7, h8⟩)
theorem z_icmp_le {x y : Int32} {off : Int} (h : z_H X cc own d) (hd : decode cc pc = .ok (.if_icmp .le off, 3)) (tgt : Nat) (ht : (pc : Int) + off = (tgt : Int)) (kt : x ≤ y → z_V X kC kS w tgt L st) (kf : ¬ x ≤ y → z_V X kC kS w (pc + 3) L st) : z_V X kC kS w pc L (vi y :: vi x :: st) := fun ad ts H locs ls cells slots ⟨h1, h2, h3, h4, h5, h6, h7, h8⟩ =>
  lv_icmp_le h.1 h.2.1 hd ht (fun q => kt q ad ts H locs ls cells slots ⟨h1, h2, h3, h4, h5, h6.2.2, h7, h8⟩) (fun q => kf q ad ts H locs ls cells slots ⟨h1, h2, h3, h4, h5, h6.2.2, h7, h8⟩)
theorem z_goto {off : Int} (h : z_H X cc own d) (hd : decode cc pc = .ok (.goto off, 3)) (tgt : Nat) (ht : (pc : Int) + off = (tgt : Int)) (k : z_V X kC kS w tgt L st) : z_V X kC kS w pc L st := fun ad ts H locs ls cells slots hh => lv_goto h.1 h.2.1 hd ht (k ad ts H locs ls cells slots hh)
theorem z_ifnull {t : z_T} {off : Int} (h : z_H X cc own d) (hd : decode cc pc = .ok (.ifnull off, 3)) (k : z_V X kC kS w (pc + 3) L st) : z_V X kC kS w pc L (vr t :: st) := fun ad ts H locs ls cells slots ⟨h1, h2, h3, h4, h5, h6, h7, h8⟩ =>
  lv_ifnull h.1 h.2.1 hd (k ad ts H locs ls cells slots ⟨h1, h2, h3, h4, h5, h6.2, h7, h8⟩)
theorem z_ifnonnull {t : z_T} {off : Int} (h : z_H X cc own d) (hd : decode cc pc = .ok (.ifnonnull off, 3)) (tgt : Nat) (ht : (pc : Int) + off = (tgt : Int)) (k : z_V X kC kS w tgt L st) : z_V X kC kS w pc L (vr t :: st) := fun ad ts H locs ls cells slots ⟨h1, h2, h3, h4, h5, h6, h7, h8⟩ =>
  lv_ifnonnull h.1 h.2.1 hd ht (k ad ts H locs ls cells slots ⟨h1, h2, h3, h4, h5, h6.2, h7, h8⟩)
theorem z_ifnullN {off : Int} (h : z_H X cc own d) (hd : decode cc pc = .ok (.ifnull off, 3)) (tgt : Nat) (ht : (pc : Int) + off = (tgt : Int)) (k : z_V X kC kS w tgt L st) : z_V X kC kS w pc L (vn :: st) := fun ad ts H locs ls cells slots ⟨h1, h2, h3, h4, h5, h6, h7, h8⟩ =>
  lv_ifnullN h.1 h.2.1 hd ht (k ad ts H locs ls cells slots ⟨h1, h2, h3, h4, h5, h6.2, h7, h8⟩)
theorem z_ifnonnullN {off : Int} (h : z_H X cc own d) (hd : decode cc pc = .ok (.ifnonnull off, 3)) (k : z_V X kC kS w (pc + 3) L st) : z_V X kC kS w pc L (vn :: st) := fun ad ts H locs ls cells slots ⟨h1, h2, h3, h4, h5, h6, h7, h8⟩ =>
  lv_ifnonnullN h.1 h.2.1 hd (k ad ts H locs ls cells slots ⟨h1, h2, h3, h4, h5, h6.2, h7, h8⟩)
theorem z_tblOut {dflt lo hi : Int} {offs : Array Int} {len : Nat} {x : Int32} (h : z_H X cc own d) (hd : decode cc pc = .ok (.tableswitch dflt lo hi offs, len)) (tgt : Nat) (ho : x.toInt < lo ∨ hi < x.toInt) (ht : (pc : Int) + dflt = (tgt : Int)) (k : z_V X kC kS w tgt L st) : z_V X kC kS w pc L (vi x :: st) := fun ad ts H locs ls cells slots ⟨h1, h2, h3, h4, h5, h6, h7, h8⟩ =>
  lv_tableOut h.1 h.2.1 hd ho ht (k ad ts H locs ls cells slots ⟨h1, h2, h3, h4, h5, h6.2, h7, h8⟩)
theorem z_tblIn {dflt lo hi : Int} {offs : Array Int} {len : Nat} {x : Int32} {off : Int} (h : z_H X cc own d) (hd : decode cc pc = .ok (.tableswitch dflt lo hi offs, len)) (tgt : Nat) (h9 : ¬ x.toInt < lo) (h10 : ¬ hi < x.toInt) (ho : offs[(x.toInt - lo).toNat]? = some off) (ht : (pc : Int) + off = (tgt : Int)) (k : z_V X kC kS w tgt L st) : z_V X kC kS w pc L (vi x :: st) := fun ad ts H locs ls cells slots ⟨h1, h2, h3, h4, h5, h6, h7, h8⟩ =>
  lv_tableIn h.1 h.2.1 hd h9 h10 ho ht (k ad ts H locs ls cells slots ⟨h1, h2, h3, h4, h5, h6.2, h7, h8⟩)
theorem z_lookup {dflt : Int} {ps : Array (Int × Int)} {len : Nat} {x : Int32} {off : Int} (h : z_H X cc own d) (hd : decode cc pc = .ok (.lookupswitch dflt ps, len)) (tgt : Nat) (hp : (ps.toList.zip (ps.toList.drop 1)).all (fun (a, next) => a.1 < next.1) = true) (ho : Op.lookupswitch.offset ps.toList dflt x.toInt = off) (ht : (pc : Int) + off = (tgt : Int)) (k : z_V X kC kS w tgt L st) : z_V X kC kS w pc L (vi x :: st) := fun ad ts H locs ls cells slots ⟨h1, h2, h3, h4, h5, h6, h7, h8⟩ =>
  lv_lookup h.1 h.2.1 hd hp ho ht (k ad ts H locs ls cells slots ⟨h1, h2, h3, h4, h5, h6.2, h7, h8⟩)
theorem z_ldc {idx : Nat} {v : Int32} (h : z_H X cc own d) (hd : decode cc pc = .ok (.ldc idx, 2)) (hc : Cond.constant own idx v ∈ lw_tbl) (k : z_V X kC kS w (pc + 2) L (vi v :: st)) : z_V X kC kS w pc L st := fun ad ts H locs ls cells slots ⟨h1, h2, h3, h4, h5, h6, h7, h8⟩ =>
  lv_ldc h.1 h.2.1 h.2.2.1 (h.word hc rfl) hd (k ad ts H locs ls cells slots ⟨h1, h2, h3, h4, h5, ⟨trivial, h6⟩, h7, h8⟩)
theorem z_ldcw {idx : Nat} {v : Int32} (h : z_H X cc own d) (hd : decode cc pc = .ok (.ldc_w idx, 3)) (hc : Cond.constant own idx v ∈ lw_tbl) (k : z_V X kC kS w (pc + 3) L (vi v :: st)) : z_V X kC kS w pc L st := fun ad ts H locs ls cells slots ⟨h1, h2, h3, h4, h5, h6, h7, h8⟩ =>
  lv_ldcw h.1 h.2.1 h.2.2.1 (h.word hc rfl) hd (k ad ts H locs ls cells slots ⟨h1, h2, h3, h4, h5, ⟨trivial, h6⟩, h7, h8⟩)
theorem z_ldc2 {idx : Nat} {v : Int64} (h : z_H X cc own d) (hd : decode cc pc = .ok (.ldc2_w idx, 3)) (hc : Cond.constantLong own idx v ∈ lw_tbl) (k : z_V X kC kS w (pc + 3) L (vl v :: st)) : z_V X kC kS w pc L st := fun ad ts H locs ls cells slots ⟨h1, h2, h3, h4, h5, h6, h7, h8⟩ =>
  lv_ldc2 h.1 h.2.1 h.2.2.1 (h.word hc rfl) hd (k ad ts H locs ls cells slots ⟨h1, h2, h3, h4, h5, ⟨trivial, h6⟩, h7, h8⟩)
/-- a number, a name for it -/
theorem z_topi {x : Int32} (k : ∀ y : Int32, y = x → z_V X kC kS w pc L (vi y :: st)) : z_V X kC kS w pc L (vi x :: st) := k x rfl
theorem z_topl {x : Int64} (k : ∀ y : Int64, y = x → z_V X kC kS w pc L (vl y :: st)) : z_V X kC kS w pc L (vl x :: st) := k x rfl
/-- the top of the stack by an equal number -/
theorem z_toe {x y : Int32} (e : x = y) (k : z_V X kC kS w pc L (vi y :: st)) : z_V X kC kS w pc L (vi x :: st) := e ▸ k
theorem z_tole {x y : Int64} (e : x = y) (k : z_V X kC kS w pc L (vl y :: st)) : z_V X kC kS w pc L (vl x :: st) := e ▸ k
end ZR
end
section
/-! fields, arrays, new cells -/
abbrev z_F : List Cond := lw_tbl.filter goodWord
theorem z_inF {w : Cond} {i : Nat} (h : lw_tbl[i]? = some w) (hg : goodWord w = true) : w ∈ z_F := List.mem_filter.mpr ⟨List.mem_of_getElem? h, hg⟩
theorem z_inFs (ws : List Cond) (ps : List Nat) (hp : ws = ps.filterMap (fun i => lw_tbl[i]?)) (h : ws.all goodWord = true) : ∀ w ∈ ws, w ∈ z_F := by
  intro w hw
  have h1 := List.all_eq_true.mp h w hw
  rw [hp] at hw
  obtain ⟨i, -, hi⟩ := List.mem_filterMap.mp hw
  exact z_inF hi h1
/-- a field's link: from class own, entry idx, it is slot k of class number ci, of type ty, final or not -/
def z_FL (own : String) (idx ci k : Nat) (ty : FieldType) (fin : Nat) : Prop := ∃ (C : String) (T : u_T) (N : Nat) (ty0 : Nat → FieldType), vwCl[ci]? = some (C, T, N) ∧ (∀ w ∈ u_ws C T N, w ∈ z_F) ∧ k < N ∧ Cond.fieldLink own idx (T k).1 (T k).2.1 (T k).2.2.1 ∈ z_F ∧
  (∀ k, k < N → parseFieldDescriptor (T k).2.2.1 = some (ty0 k)) ∧ (∀ a, a < N → ∀ b, b < N → a ≠ b → (T a).2.1 ≠ (T b).2.1) ∧ parseFieldDescriptor (T k).2.2.1 = some ty ∧ (fin = 0 → (T k).2.2.2 = false) ∧ (fin = 1 → (T k).2.2.2 = true ∧ (T k).1 = own)
/-- a value fits a field's type -/
def z_fit (ty : FieldType) (v : z_v) : Prop := ∀ ad, narrow ty (z_cv ad v) = z_cv ad v ∧ fits ty (z_cv ad v) = true
theorem z_fit_i (x : Int32) : z_fit .int (vi x) := fun _ => ⟨rfl, rfl⟩
theorem z_fit_r {ty : FieldType} (h : (∃ n, ty = .object n) ∨ ∃ t, ty = .array t) (t : z_T) : z_fit ty (vr t) := fun _ => by
  rcases h with ⟨n, rfl⟩ | ⟨t, rfl⟩ <;> exact ⟨rfl, rfl⟩
theorem z_oks_no {E0 : z_T → Prop} (he : ∀ t, ¬ E0 t) {w : z_w} {l : List z_v} (h : z_oks E0 w l) : z_oks (fun _ => False) w l := by
  refine z_oks_mem.mpr fun v hv => ?_
  have := z_oks_mem.mp h v hv
  match v, this with
  | .inl _, _ => trivial
  | .inr (.inl _), _ => trivial
  | .inr (.inr none), _ => trivial
  | .inr (.inr (some t)), hv => exact hv.imp id (he t)
/-- index j of n, as a number -/
def z_ix (i : Int32) (j n : Nat) : Prop := vp_in i n ∧ i.toNatClampNeg = j
theorem z_ixn {j n : Nat} (h : j < n) (hn : n < 2 ^ 31) : z_ix (nI j) j n := ⟨vp_in_nI h hn, nI_clamp (by omega)⟩
theorem z_ixe {i : Int32} {j n : Nat} (e : i = nI j) (h : j < n) (hn : n < 2 ^ 31) : z_ix i j n := e ▸ z_ixn h hn
theorem z_tys_at {dA : Nat → ClassId} {k : Nat} (h : k ≤ 5) : (z_tys dA)[k]? = some (dA k, z_kt k) := by
  rcases (show k = 0 ∨ k = 1 ∨ k = 2 ∨ k = 3 ∨ k = 4 ∨ k = 5 by omega) with rfl | rfl | rfl | rfl | rfl | rfl <;> rfl
section ZC
variable {X : z_X} {cc : ByteArray} {own : String} {d kC kS : Nat} {w : z_w} {pc : Nat} {L : List (Nat × z_v)} {st : List z_v}
theorem z_get {idx ci k : Nat} {ty : FieldType} {fin : Nat} {t : z_T} {fs : List z_v} {v : z_v} (h : z_H X cc own d) (hd : decode cc pc = .ok (.getfield idx, 3)) (hf : z_FL own idx ci k ty fin) (hw : w t = some (z_ob ci fs)) (hv : fs[k]? = some v) (kk : z_V X kC kS w (pc + 3) L (v :: st)) : z_V X kC kS w pc L (vr t :: st) := fun ad ts H locs ls cells slots ⟨h1, h2, h3, h4, h5, h6, h7, h8⟩ => by
  obtain ⟨C, T, N, ty0, f1, f2, f3, f4, -⟩ := hf
  obtain ⟨i, hi, he⟩ := h2.find hw
  have hx := kk ad ts H locs ls cells slots ⟨h1, h2, h3, h4, h5, ⟨z_okv_up (h2.2.2.2.2 t _ hw v (List.mem_of_getElem? hv)), h6.2⟩, h7, h8⟩
  exact va_get h.1 h.2.1 h.ts f2 h.2.2.1 h.2.2.2.1.1 h2.2.2.1 i he f1 k f3 (h.ts _ f4) (fun _ q => q) (v := z_cv ad v) (by simp [hv]) hd hx
theorem z_put_core (h : z_H X cc own d) (he0 : ∀ t, ¬ x_E0 X t) {t : z_T} {ci : Nat} {fs : List z_v} {v : z_v} {k : Nat} {ad : z_T → Nat} {ts : List z_T} {H : Heap} {locs : List Loc} {ls : Array Slot} {cells slots : Nat} (hh : z_at X ad ts H locs ls cells slots kC kS w L (v :: vr t :: st)) (hw : w t = some (z_ob ci fs)) {i : Nat} (hi : ts[i]? = some t) {H1 : Heap} {locs1 : List Loc}
    (hP : va_P (x_D X) vwCl ((z_ls (x_dA X) ad w ts).set i (ad t, .inr (ci, (fs.map (z_cv ad)).set k (z_cv ad v)))) H1) (hD : va_D (x_A X) ((z_ls (x_dA X) ad w ts).set i (ad t, .inr (ci, (fs.map (z_cv ad)).set k (z_cv ad v))))) (hS : va_S (x_A X) (x_H0 X) H1 locs1) : z_at X ad ts H1 locs1 ls cells slots kC kS (z_set w t (z_ob ci (fs.set k v))) L st := by
  obtain ⟨h1, h2, h3, h4, h5, h6, h7, h8⟩ := hh
  have e : (fs.map (z_cv ad)).set k (z_cv ad v) = (fs.set k v).map (z_cv ad) := by rw [List.map_set]
  rw [e] at hP hD
  have hm : ∀ q, w q ≠ none → z_set w t (z_ob ci (fs.set k v)) q ≠ none := fun _ hq => z_set_some hq
  have hcl : z_okc (fun _ => False) w (z_ob ci (fs.set k v)) := by
    intro u hu
    rcases List.mem_or_eq_of_mem_set hu with q | q
    · exact h2.2.2.2.2 t _ hw u q
    · rw [q]
      exact (z_oks_no he0 h6).1
  exact ⟨h1, h2.put hi hcl hP hD, hS, fun q hq => (h4 q hq).imp (hm q) id, z_okl_mono hm h5, z_oks_mono hm h6.2.2, h7, h8⟩
theorem z_put {idx ci k : Nat} {ty : FieldType} {t : z_T} {fs : List z_v} {v : z_v} (h : z_H X cc own d) (hd : decode cc pc = .ok (.putfield idx, 3)) (he0 : ∀ t, ¬ x_E0 X t) (hf : z_FL own idx ci k ty 0) (hw : w t = some (z_ob ci fs)) (hl : k < fs.length) (hv : z_fit ty v) (kk : z_V X kC kS (z_set w t (z_ob ci (fs.set k v))) (pc + 3) L st) : z_V X kC kS w pc L (v :: vr t :: st) := fun ad ts H locs ls cells slots hh => by
  obtain ⟨C, T, N, ty0, f1, f2, f3, f4, f5, f6, f8, f7, -⟩ := hf
  obtain ⟨i, hi, he⟩ := hh.2.1.find hw
  exact va_put h.1 h.2.1 h.ts f2 ty0 f5 f6 h.2.2.1 h.2.2.2.1.1 hh.2.1.2.2.1 hh.2.1.2.2.2.1 hh.2.2.1 i he f1 k f3 (h.ts _ f4) (fun _ q => q) (f7 rfl) (v := z_cv ad v) f8 (hv ad).1 (hv ad).2 (by rw [List.length_map]; exact hl) hd
    (fun H1 locs1 hP hD hS => kk ad ts H1 locs1 ls cells slots (z_put_core h he0 hh hw hi hP hD hS))
theorem z_putF {idx ci k : Nat} {ty : FieldType} {t : z_T} {fs : List z_v} {v : z_v} (h : z_H X cc own d) (hd : decode cc pc = .ok (.putfield idx, 3)) (he0 : ∀ t, ¬ x_E0 X t) (hin2 : (x_me X).name = "<init>") (hf : z_FL own idx ci k ty 1) (hw : w t = some (z_ob ci fs)) (hl : k < fs.length) (hv : z_fit ty v) (kk : z_V X kC kS (z_set w t (z_ob ci (fs.set k v))) (pc + 3) L st) : z_V X kC kS w pc L (v :: vr t :: st) := fun ad ts H locs ls cells slots hh => by
  obtain ⟨C, T, N, ty0, f1, f2, f3, f4, f5, f6, f8, -, f9⟩ := hf
  obtain ⟨i, hi, he⟩ := hh.2.1.find hw
  exact va_putF h.1 h.2.1 h.ts f2 ty0 f5 f6 h.2.2.1 h.2.2.2.1.1 hh.2.1.2.2.1 hh.2.1.2.2.2.1 hh.2.2.1 i he f1 k f3 (h.ts _ f4) (fun _ q => q) (f9 rfl).1 hin2 (f9 rfl).2 (v := z_cv ad v) f8 (hv ad).1 (hv ad).2 (by rw [List.length_map]; exact hl) hd
    (fun H1 locs1 hP hD hS => kk ad ts H1 locs1 ls cells slots (z_put_core h he0 hh hw hi hP hD hS))
theorem z_alen {t : z_T} {k n : Nat} {f : z_ar} (h : z_H X cc own d) (hd : decode cc pc = .ok (.arraylength, 1)) (hw : w t = some (.inl (k, n, f))) (hk : k ≤ 5) (kk : z_V X kC kS w (pc + 1) L (vi (nI n) :: st)) : z_V X kC kS w pc L (vr t :: st) := fun ad ts H locs ls cells slots ⟨h1, h2, h3, h4, h5, h6, h7, h8⟩ => by
  obtain ⟨i, hi, he⟩ := h2.find hw
  have hx := kk ad ts H locs ls cells slots ⟨h1, h2, h3, h4, h5, ⟨trivial, h6.2⟩, h7, h8⟩
  match f, he with
  | .inl f, he => exact va_alen h.1 h.2.1 h.2.2.2.1.1 h2.2.2.1 i k he (z_tys_at hk) (v := nI n) rfl hd hx
  | .inr (.inl f), he => exact va_alen h.1 h.2.1 h.2.2.2.1.1 h2.2.2.1 i k he (z_tys_at hk) (v := nI n) rfl hd hx
  | .inr (.inr f), he => exact va_alen h.1 h.2.1 h.2.2.2.1.1 h2.2.2.1 i k he (z_tys_at hk) (v := nI n) rfl hd hx
theorem z_iald {t : z_T} {n j : Nat} {f : Nat → Int32} {i : Int32} (h : z_H X cc own d) (hd : decode cc pc = .ok (.iaload, 1)) (hw : w t = some (z_ia n f)) (hi : z_ix i j n) (kk : z_V X kC kS w (pc + 1) L (vi (f j) :: st)) : z_V X kC kS w pc L (vi i :: vr t :: st) := fun ad ts H locs ls cells slots ⟨h1, h2, h3, h4, h5, h6, h7, h8⟩ => by
  obtain ⟨q, hq, he⟩ := h2.find hw
  obtain ⟨hi1, hi2⟩ := hi
  subst hi2
  exact va_iald h.1 h.2.1 h.2.2.2.1.1 h2.2.2.1 q 0 he (z_tys_at (k := 0) (by omega)) hi1 hd (kk ad ts H locs ls cells slots ⟨h1, h2, h3, h4, h5, ⟨trivial, h6.2.2⟩, h7, h8⟩)
theorem z_zald {t : z_T} {n j : Nat} {f : Nat → Int32} {i : Int32} (h : z_H X cc own d) (hd : decode cc pc = .ok (.baload, 1)) (hw : w t = some (z_za n f)) (hi : z_ix i j n) (kk : z_V X kC kS w (pc + 1) L (vi (f j) :: st)) : z_V X kC kS w pc L (vi i :: vr t :: st) := fun ad ts H locs ls cells slots ⟨h1, h2, h3, h4, h5, h6, h7, h8⟩ => by
  obtain ⟨q, hq, he⟩ := h2.find hw
  obtain ⟨hi1, hi2⟩ := hi
  subst hi2
  exact va_zald h.1 h.2.1 h.2.2.2.1.1 h2.2.2.1 q 2 he (z_tys_at (k := 2) (by omega)) hi1 hd (kk ad ts H locs ls cells slots ⟨h1, h2, h3, h4, h5, ⟨trivial, h6.2.2⟩, h7, h8⟩)
theorem z_lald {t : z_T} {n j : Nat} {f : Nat → Int64} {i : Int32} (h : z_H X cc own d) (hd : decode cc pc = .ok (.laload, 1)) (hw : w t = some (z_la n f)) (hi : z_ix i j n) (kk : z_V X kC kS w (pc + 1) L (vl (f j) :: st)) : z_V X kC kS w pc L (vi i :: vr t :: st) := fun ad ts H locs ls cells slots ⟨h1, h2, h3, h4, h5, h6, h7, h8⟩ => by
  obtain ⟨q, hq, he⟩ := h2.find hw
  obtain ⟨hi1, hi2⟩ := hi
  subst hi2
  exact va_lald h.1 h.2.1 h.2.2.2.1.1 h2.2.2.1 q 1 he (z_tys_at (k := 1) (by omega)) hi1 hd (kk ad ts H locs ls cells slots ⟨h1, h2, h3, h4, h5, ⟨trivial, h6.2.2⟩, h7, h8⟩)
def z_ob? : Nat → Option String
  | 3 => some "BogForge$Bog"
  | 4 => some "BogForge$Bar"
  | 5 => some "BogForge$Pay"
  | _ => none
theorem z_kt_ob {k : Nat} {C : String} (h : z_ob? k = some C) : k ≤ 5 ∧ z_kt k = .object C := by
  match k, h with
  | 3, h => cases h; exact ⟨by omega, rfl⟩
  | 4, h => cases h; exact ⟨by omega, rfl⟩
  | 5, h => cases h; exact ⟨by omega, rfl⟩
theorem z_aald {t u : z_T} {k n j : Nat} {f : Nat → Option z_T} {i : Int32} {C : String} (h : z_H X cc own d) (hd : decode cc pc = .ok (.aaload, 1)) (hk : z_ob? k = some C) (hw : w t = some (z_ra k n f)) (hi : z_ix i j n) (hf : f j = some u) (kk : z_V X kC kS w (pc + 1) L (vr u :: st)) : z_V X kC kS w pc L (vi i :: vr t :: st) := fun ad ts H locs ls cells slots ⟨h1, h2, h3, h4, h5, h6, h7, h8⟩ => by
  obtain ⟨q, hq, he⟩ := h2.find hw
  obtain ⟨hi1, hi2⟩ := hi
  subst hi2
  refine va_aldq (C := C) h.1 h.2.1 h.2.2.2.1.1 h2.2.2.1 q k he (by rw [z_tys_at (z_kt_ob hk).1, (z_kt_ob hk).2]) hi1 hd ?_
  rw [hf]
  exact kk ad ts H locs ls cells slots ⟨h1, h2, h3, h4, h5, ⟨(h2.2.2.2.2 t _ hw _ _ hf).imp id False.elim, h6.2.2⟩, h7, h8⟩
theorem z_aaldN {t : z_T} {k n j : Nat} {f : Nat → Option z_T} {i : Int32} {C : String} (h : z_H X cc own d) (hd : decode cc pc = .ok (.aaload, 1)) (hk : z_ob? k = some C) (hw : w t = some (z_ra k n f)) (hi : z_ix i j n) (hf : f j = none) (kk : z_V X kC kS w (pc + 1) L (vn :: st)) : z_V X kC kS w pc L (vi i :: vr t :: st) := fun ad ts H locs ls cells slots ⟨h1, h2, h3, h4, h5, h6, h7, h8⟩ => by
  obtain ⟨q, hq, he⟩ := h2.find hw
  obtain ⟨hi1, hi2⟩ := hi
  subst hi2
  refine va_aldq (C := C) h.1 h.2.1 h.2.2.2.1.1 h2.2.2.1 q k he (by rw [z_tys_at (z_kt_ob hk).1, (z_kt_ob hk).2]) hi1 hd ?_
  rw [hf]
  exact kk ad ts H locs ls cells slots ⟨h1, h2, h3, h4, h5, ⟨trivial, h6.2.2⟩, h7, h8⟩
/-- behind a store into an array of numbers -/
theorem z_ast_core {t : z_T} {c : z_c} {a b : z_v} {ad : z_T → Nat} {ts : List z_T} {H : Heap} {locs : List Loc} {ls : Array Slot} {cells slots : Nat} (hh : z_at X ad ts H locs ls cells slots kC kS w L (a :: b :: vr t :: st)) {i : Nat} (hi : ts[i]? = some t) (hc : z_okc (fun _ => False) w c) {H1 : Heap} {locs1 : List Loc}
    (hP : va_P (x_D X) vwCl ((z_ls (x_dA X) ad w ts).set i (ad t, z_ce (x_dA X) ad c)) H1) (hD : va_D (x_A X) ((z_ls (x_dA X) ad w ts).set i (ad t, z_ce (x_dA X) ad c))) (hS : va_S (x_A X) (x_H0 X) H1 locs1) : z_at X ad ts H1 locs1 ls cells slots kC kS (z_set w t c) L st := by
  obtain ⟨h1, h2, h3, h4, h5, h6, h7, h8⟩ := hh
  have hm : ∀ q, w q ≠ none → z_set w t c q ≠ none := fun _ hq => z_set_some hq
  exact ⟨h1, h2.put hi hc hP hD, hS, fun q hq => (h4 q hq).imp (hm q) id, z_okl_mono hm h5, z_oks_mono hm h6.2.2.2, h7, h8⟩
theorem z_iast {t : z_T} {n j : Nat} {f : Nat → Int32} {i x : Int32} (h : z_H X cc own d) (hd : decode cc pc = .ok (.iastore, 1)) (hw : w t = some (z_ia n f)) (hi : z_ix i j n) (kk : z_V X kC kS (z_set w t (z_ia n (upd f j x))) (pc + 1) L st) : z_V X kC kS w pc L (vi x :: vi i :: vr t :: st) := fun ad ts H locs ls cells slots hh => by
  obtain ⟨q, hq, he⟩ := hh.2.1.find hw
  obtain ⟨hi1, hi2⟩ := hi
  subst hi2
  exact va_iast h.1 h.2.1 h.2.2.2.1.1 hh.2.1.2.2.1 hh.2.1.2.2.2.1 hh.2.2.1 q 0 he (z_tys_at (k := 0) (by omega)) hi1 hd (fun H1 locs1 hP hD hS => kk ad ts H1 locs1 ls cells slots (z_ast_core (c := z_ia n (upd f i.toNatClampNeg x)) hh hq trivial hP hD hS))
theorem z_zast {t : z_T} {n j : Nat} {f : Nat → Int32} {i x : Int32} (h : z_H X cc own d) (hd : decode cc pc = .ok (.bastore, 1)) (hw : w t = some (z_za n f)) (hi : z_ix i j n) (hx : vp_nar .boolean x = x) (kk : z_V X kC kS (z_set w t (z_za n (upd f j x))) (pc + 1) L st) : z_V X kC kS w pc L (vi x :: vi i :: vr t :: st) := fun ad ts H locs ls cells slots hh => by
  obtain ⟨q, hq, he⟩ := hh.2.1.find hw
  obtain ⟨hi1, hi2⟩ := hi
  subst hi2
  exact va_zast h.1 h.2.1 h.2.2.2.1.1 hh.2.1.2.2.1 hh.2.1.2.2.2.1 hh.2.2.1 q 2 he (z_tys_at (k := 2) (by omega)) hi1 hd (fun H1 locs1 hP hD hS => by
    rw [hx] at hP hD
    exact kk ad ts H1 locs1 ls cells slots (z_ast_core (c := z_za n (upd f i.toNatClampNeg x)) hh hq trivial hP hD hS))
theorem z_last {t : z_T} {n j : Nat} {f : Nat → Int64} {i : Int32} {x : Int64} (h : z_H X cc own d) (hd : decode cc pc = .ok (.lastore, 1)) (hw : w t = some (z_la n f)) (hi : z_ix i j n) (kk : z_V X kC kS (z_set w t (z_la n (vp_updL f j x))) (pc + 1) L st) : z_V X kC kS w pc L (vl x :: vi i :: vr t :: st) := fun ad ts H locs ls cells slots hh => by
  obtain ⟨q, hq, he⟩ := hh.2.1.find hw
  obtain ⟨hi1, hi2⟩ := hi
  subst hi2
  exact va_last h.1 h.2.1 h.2.2.2.1.1 hh.2.1.2.2.1 hh.2.1.2.2.2.1 hh.2.2.1 q 1 he (z_tys_at (k := 1) (by omega)) hi1 hd (fun H1 locs1 hP hD hS => kk ad ts H1 locs1 ls cells slots (z_ast_core (c := z_la n (vp_updL f i.toNatClampNeg x)) hh hq trivial hP hD hS))
theorem z_aast {t u : z_T} {k n j ci : Nat} {f : Nat → Option z_T} {i : Int32} {r : vw_C} {vs : List z_v} (h : z_H X cc own d) (hd : decode cc pc = .ok (.aastore, 1)) (hk : z_ob? k = some r.1) (hc : vwCl[ci]? = some r) (hw : w t = some (z_ra k n f)) (hi : z_ix i j n) (hu : w u = some (z_ob ci vs)) (kk : z_V X kC kS (z_set w t (z_ra k n (va_up f j (some u)))) (pc + 1) L st) : z_V X kC kS w pc L (vr u :: vi i :: vr t :: st) := fun ad ts H locs ls cells slots hh => by
  obtain ⟨q, hq, he⟩ := hh.2.1.find hw
  obtain ⟨q2, hq2, he2⟩ := hh.2.1.find hu
  obtain ⟨hi1, hi2⟩ := hi
  subst hi2
  have hcl : z_okc (fun _ => False) w (z_ra k n (va_up f i.toNatClampNeg (some u))) := by
    intro z t' hz
    by_cases e : z = i.toNatClampNeg
    · subst e
      simp [va_up] at hz
      subst hz
      exact Or.inl (by rw [hu]; simp)
    · simp [va_up, e] at hz
      exact hh.2.1.2.2.2.2 t _ hw z t' hz
  have ee : (fun z => ((va_up f i.toNatClampNeg (some u)) z).map ad) = va_up (fun z => (f z).map ad) i.toNatClampNeg (some (ad u)) := by
    funext z
    by_cases e : z = i.toNatClampNeg <;> simp [va_up, e]
  exact va_astq h.1 h.2.1 h.2.2.2.1.1 hh.2.1.2.2.1 hh.2.1.2.2.2.1 hh.2.2.1 q k q2 ci he (by rw [z_tys_at (z_kt_ob hk).1, (z_kt_ob hk).2]) he2 hc hi1 hd (fun H1 locs1 hP hD hS => by
    rw [← ee] at hP hD
    exact kk ad ts H1 locs1 ls cells slots (z_ast_core (c := z_ra k n (va_up f i.toNatClampNeg (some u))) hh hq hcl hP hD hS))
/-- behind a new cell -/
theorem z_new_core {t : z_T} {c : z_c} {ad : z_T → Nat} {ts : List z_T} {H : Heap} {locs : List Loc} {ls : Array Slot} {cells slots n : Nat} (hh : z_at X ad ts H locs ls cells slots (kC + 1) (kS + n) w L st) (ht : w t = none) (he0 : ∀ t, ¬ x_E0 X t) (hc : z_okc (fun _ => False) w c) {a : Nat} {H1 : Heap} {locs1 : List Loc}
    (hP : va_P (x_D X) vwCl (z_ls (x_dA X) ad w ts ++ [(a, z_ce (x_dA X) ad c)]) H1) (hD : va_D (x_A X) (z_ls (x_dA X) ad w ts ++ [(a, z_ce (x_dA X) ad c)])) (hS : va_S (x_A X) (x_H0 X) H1 locs1) :
    ∃ ad' : z_T → Nat, ad' t = a ∧ st.map (z_cv ad') = st.map (z_cv ad) ∧ z_at X ad' (ts ++ [t]) H1 locs1 ls (cells + 1) (slots + n) kC kS (z_set w t c) L (vr t :: st) := by
  obtain ⟨h1, h2, h3, h4, h5, h6, h7, h8, h9⟩ := hh
  obtain ⟨h10, h11⟩ := h2.new ht (he0 t) hc hP hD
  have hm : ∀ q, w q ≠ none → z_set w t c q ≠ none := fun _ hq => z_set_some hq
  refine ⟨_, ?_, z_map_eq h11 h6, fun q hq => ?_, h10, hS, fun q hq => (h4 q hq).imp (hm q) id, z_okl_mono hm h5, ⟨Or.inl (by rw [z_set_self]; simp), z_oks_mono hm h6⟩, ?_, by omega, by omega⟩
  · show (bif z_eq t t then a else ad t) = a
    rw [z_eq_self]
    rfl
  · rw [h11 q (h4 q hq)]
    exact h1 q hq
  · rw [z_mapl_eq h11 h5]
    exact h7
/-- what 'new' needs: the class, its defaults -/
def z_NW (own : String) (idx ci n : Nat) (fs : List z_v) : Prop := ∃ (C : String) (T : u_T) (ty0 : Nat → FieldType), vwCl[ci]? = some (C, T, n) ∧ (∀ w ∈ u_ws C T n, w ∈ z_F) ∧ (∀ k, k < n → parseFieldDescriptor (T k).2.2.1 = some (ty0 k)) ∧ Cond.classLink own idx C ∈ z_F ∧ Cond.instantiable C n ∈ z_F ∧ Cond.initialized C ∈ z_F ∧ (∀ ad j, j < n → defaultValue (ty0 j) = vp_V (fs.map (z_cv ad)) j) ∧ z_oks (fun _ => False) (fun _ => none) fs
theorem z_new {idx ci n : Nat} {fs : List z_v} (h : z_H X cc own d) (hd : decode cc pc = .ok (.new idx, 3)) (he0 : ∀ t, ¬ x_E0 X t) (hn : z_NW own idx ci n fs) (t : z_T) (ht : w t = none) (kk : z_V X kC kS (z_set w t (z_ob ci fs)) (pc + 3) L (vr t :: st)) : z_V X (kC + 1) (kS + n) w pc L st := fun ad ts H locs ls cells slots hh => by
  obtain ⟨C, T, ty0, f1, f2, f3, f4, f5, f6, f7, f8⟩ := hn
  have b1 : cells + 1 ≤ (x_R X).cells := by rw [h.2.2.2.2.1.1]; have := hh.2.2.2.2.2.2.2.1; omega
  have b2 : slots + n ≤ (x_R X).slots := by rw [h.2.2.2.2.1.2.1]; have := hh.2.2.2.2.2.2.2.2; omega
  refine va_new h.1 h.2.1 h.ts f2 ty0 f3 h.2.2.1 (h.ts _ f4) (h.ts _ f5) (h.ts _ f6) h.2.2.2.1.1 hh.2.1.2.2.1 hh.2.1.2.2.2.1 hh.2.2.1 h.2.2.2.2.2.1 f1 (fs := fs.map (z_cv ad)) (f7 ad) b1 b2 hd (fun a H1 hP hD hS => ?_)
  obtain ⟨ad', e1, e2, hz⟩ := z_new_core (c := z_ob ci fs) hh ht he0 (fun v hv => z_okv_mono (w := fun _ => none) (fun _ q => absurd rfl q) (z_oks_mem.mp f8 v hv)) hP hD hS
  have := kk ad' _ H1 locs ls _ _ hz
  rw [show (vr t :: st).map (z_cv ad') = .ref a :: st.map (z_cv ad) by rw [← e2, ← e1]; rfl] at this
  exact this
theorem z_dA_eq {s : State} {D : va_G} {dA : Nat → ClassId} {k : Nat} {cA : ClassId} (hk : k ≤ 5) (h : va_K D vwCl (z_tys dA ++ [(cA, z_kt k)]) s) : cA = dA k := by
  have a1 := (h.2 6 (cA, z_kt k) rfl).2
  have a2 := (h.2 k (dA k, z_kt k) (by rw [List.getElem?_append_left (by show k < 6; omega)]; exact z_tys_at hk)).2
  rcases (show k = 0 ∨ k = 1 ∨ k = 2 ∨ k = 3 ∨ k = 4 ∨ k = 5 by omega) with rfl | rfl | rfl | rfl | rfl | rfl
  · exact Option.some.inj (a1.symm.trans a2)
  · exact Option.some.inj (a1.symm.trans a2)
  · exact Option.some.inj (a1.symm.trans a2)
  · obtain ⟨_, _, -, -, -, q1⟩ := a1
    obtain ⟨_, _, -, -, -, q2⟩ := a2
    exact Option.some.inj (q1.symm.trans q2)
  · obtain ⟨_, _, -, -, -, q1⟩ := a1
    obtain ⟨_, _, -, -, -, q2⟩ := a2
    exact Option.some.inj (q1.symm.trans q2)
  · obtain ⟨_, _, -, -, -, q1⟩ := a1
    obtain ⟨_, _, -, -, -, q2⟩ := a2
    exact Option.some.inj (q1.symm.trans q2)
/-- new int[n], new long[n], new boolean[n] -/
theorem z_newarr {atype : ArrayType} {x : Int32} {n : Nat} (h : z_H X cc own d) (hd : decode cc pc = .ok (.newarray atype, 2)) (he0 : ∀ t, ¬ x_E0 X t) (k : Nat) (f : z_ar) (hk : k ≤ 2 ∧ newarray.typeOf atype = z_kt k ∧ Cond.arrayClass (newarray.typeOf atype) ∈ lw_tbl ∧ ∀ (dA : Nat → ClassId) (ad : z_T → Nat) (cA : ClassId), ∃ a0 : vp_A, z_ce dA ad (.inl (k, n, f)) = .inl (dA k, a0) ∧ vp_cell cA a0 = arrV cA n (fun _ => defaultValue (z_kt k))) (hnr : z_okc (fun _ => False) w (.inl (k, n, f))) (hx : x = nI n) (hn : n < 60000000) (t : z_T) (ht : w t = none) (kk : z_V X kC kS (z_set w t (.inl (k, n, f))) (pc + 2) L (vr t :: st)) : z_V X (kC + 1) (kS + n) w pc L (vi x :: st) := fun ad ts H locs ls cells slots hh => by
  obtain ⟨k1, k2, k3, k4⟩ := hk
  have b1 : cells + 1 ≤ (x_R X).cells := by rw [h.2.2.2.2.1.1]; have := hh.2.2.2.2.2.2.2.1; omega
  have b2 : slots + n ≤ (x_R X).slots := by rw [h.2.2.2.2.1.2.1]; have := hh.2.2.2.2.2.2.2.2; omega
  have hcl : (nI n).toNatClampNeg = n := nI_clamp (by omega)
  obtain ⟨a0, e0, -⟩ := k4 (x_dA X) ad (x_dA X k)
  have hall : ∀ cA : ClassId, vp_cell cA a0 = arrV cA n (fun _ => defaultValue (z_kt k)) := fun cA => by
    obtain ⟨a1, e1, e2⟩ := k4 (x_dA X) ad cA
    have : a0 = a1 := by rw [e0] at e1; exact (Prod.mk.inj (Sum.inl.inj e1)).2
    rw [this]; exact e2
  have hb : n * componentBytes (z_kt k) ≤ 536870912 := by
    rcases (show k = 0 ∨ k = 1 ∨ k = 2 by omega) with rfl | rfl | rfl
    · show n * 4 ≤ _; omega
    · show n * 8 ≤ _; omega
    · show n * 1 ≤ _; omega
  subst hx
  have hh' : z_at X ad ts H locs ls cells slots (kC + 1) (kS + n) w L st := ⟨hh.1, hh.2.1, hh.2.2.1, hh.2.2.2.1, hh.2.2.2.2.1, hh.2.2.2.2.2.1.2, hh.2.2.2.2.2.2⟩
  refine va_newa h.1 h.2.1 (h.2.2.2.1.2.1 _ k3 rfl _) k2 h.2.2.2.1.1 hh.2.1.2.2.1 hh.2.1.2.2.2.1 hh.2.2.1 h.2.2.2.2.2.1 (a0 := a0) hall (nI_pos (by omega)) hcl hb b1 b2 hd (fun a cA H1 hKK hP hD hS => ?_)
  have ec : cA = x_dA X k := z_dA_eq (by omega) hKK
  subst ec
  rw [← e0] at hP hD
  obtain ⟨ad', e1, e2, hz⟩ := z_new_core hh' ht he0 hnr hP hD hS
  have := kk ad' _ H1 locs ls _ _ hz
  rw [show (vr t :: st).map (z_cv ad') = .ref a :: st.map (z_cv ad) by rw [← e2, ← e1]; rfl] at this
  exact this
/-- new C[n] -/
theorem z_newref {idx k : Nat} {C : String} {x : Int32} {n : Nat} (h : z_H X cc own d) (hd : decode cc pc = .ok (.anewarray idx, 3)) (he0 : ∀ t, ¬ x_E0 X t) (hk : z_ob? k = some C) (hcl : Cond.classLink own idx C ∈ z_F) (hov : Cond.arrayOver (.object C) ∈ lw_tbl) (hx : x = nI n) (hn : n < 60000000) (t : z_T) (ht : w t = none) (kk : z_V X kC kS (z_set w t (z_ra k n (fun _ => none))) (pc + 3) L (vr t :: st)) : z_V X (kC + 1) (kS + n) w pc L (vi x :: st) := fun ad ts H locs ls cells slots hh => by
  have b1 : cells + 1 ≤ (x_R X).cells := by rw [h.2.2.2.2.1.1]; have := hh.2.2.2.2.2.2.2.1; omega
  have b2 : slots + n ≤ (x_R X).slots := by rw [h.2.2.2.2.1.2.1]; have := hh.2.2.2.2.2.2.2.2; omega
  have hcn : (nI n).toNatClampNeg = n := nI_clamp (by omega)
  subst hx
  have hh' : z_at X ad ts H locs ls cells slots (kC + 1) (kS + n) w L st := ⟨hh.1, hh.2.1, hh.2.2.1, hh.2.2.2.1, hh.2.2.2.2.1, hh.2.2.2.2.2.1.2, hh.2.2.2.2.2.2⟩
  refine va_newq h.1 h.2.1 h.2.2.1 (h.ts _ hcl) (h.2.2.2.1.2.2 _ hov rfl) h.2.2.2.1.1 hh.2.1.2.2.1 hh.2.1.2.2.2.1 hh.2.2.1 h.2.2.2.2.2.1 (nI_pos (by omega)) hcn (by omega) b1 b2 hd (fun a cA H1 hKK hP hD hS => ?_)
  rw [← (z_kt_ob hk).2] at hKK
  have ec : cA = x_dA X k := z_dA_eq (z_kt_ob hk).1 hKK
  subst ec
  have hnr : z_okc (fun _ => False) w (z_ra k n (fun _ => none)) := fun _ _ q => by cases q
  obtain ⟨ad', e1, e2, hz⟩ := z_new_core (c := z_ra k n (fun _ => none)) hh' ht he0 hnr hP hD hS
  have := kk ad' _ H1 locs ls _ _ hz
  rw [show (vr t :: st).map (z_cv ad') = .ref a :: st.map (z_cv ad) by rw [← e2, ← e1]; rfl] at this
  exact this
def z_words (st : List z_v) : Nat := (st.map (fun v => if z_c2 v = true then 2 else 1)).sum
theorem z_words_eq (ad : z_T → Nat) (st : List z_v) : ((st.map (z_cv ad)).map fun v => v.category).sum = z_words st := by
  rw [z_words, List.map_map]
  congr 1
  exact List.map_congr_left fun v _ => z_cat ad v
theorem z_obj {idx : Nat} {t : z_T} (h : z_H X cc own d) (hd : decode cc pc = .ok (.invokespecial idx, 3)) (hl : Cond.methodLink own idx objectInit ∈ z_F) (hi : Cond.instanceMethod objectInit ∈ z_F) (hc : Cond.code objectInit ⟨#[0xb1]⟩ 1 none ∈ z_F) (hst : z_words st ≤ 8) (kk : z_V X kC kS w (pc + 3) L st) : z_V X kC kS w pc L (vr t :: st) := fun ad ts H locs ls cells slots ⟨h1, h2, h3, h4, h5, h6, h7, h8⟩ => by
  have hb := h.2.2.2.2.1
  refine W.objInit h.1 h.2.1 h.2.2.1 (h.ts _ hl) (h.ts _ hi) (h.ts _ hc) rfl (h7.1.trans h.2.2.2.2.2.2.symm) rfl hd (by omega) ?_ (kk ad ts H locs ls cells slots ⟨h1, h2, h3, h4, h5, h6.2, h7, h8⟩)
  have := z_words_eq ad st
  show 2 * 0 + _ + 12 ≤ _
  omega
theorem z_max {idx : Nat} {x y : Int32} (h : z_H X cc own d) (hd : decode cc pc = .ok (.invokestatic idx, 3)) (hl : Cond.methodLink own idx Lib.Math.max.name ∈ z_F) (hs : Cond.static Lib.Math.max.name ∈ z_F) (hi : Cond.initialized "java/lang/Math" ∈ z_F) (hc : Cond.code Lib.Math.max.name Lib.Math.max.code 2 (some .int) ∈ z_F) (hst : z_words st ≤ 8) (kk : z_V X kC kS w (pc + 3) L (vi (if x < y then y else x) :: st)) : z_V X kC kS w pc L (vi y :: vi x :: st) := fun ad ts H locs ls cells slots ⟨h1, h2, h3, h4, h5, h6, h7, h8, h9⟩ => by
  have hb := h.2.2.2.2.1
  have := z_words_eq ad st
  exact va_mmax h.1 h.2.1 (h.2.2.2.2.2.2.trans h7.1.symm) h.2.2.1 (h.ts _ hl) (h.ts _ hs) (h.ts _ hi) (h.ts _ hc) (by omega) (by omega) (by omega) (by omega) hd (kk ad ts H locs ls cells slots ⟨h1, h2, h3, h4, h5, ⟨trivial, h6.2.2⟩, h7, h8, h9⟩)
theorem z_min {idx : Nat} {x y : Int32} (h : z_H X cc own d) (hd : decode cc pc = .ok (.invokestatic idx, 3)) (hl : Cond.methodLink own idx Lib.Math.min.name ∈ z_F) (hs : Cond.static Lib.Math.min.name ∈ z_F) (hi : Cond.initialized "java/lang/Math" ∈ z_F) (hc : Cond.code Lib.Math.min.name Lib.Math.min.code 2 (some .int) ∈ z_F) (hst : z_words st ≤ 8) (kk : z_V X kC kS w (pc + 3) L (vi (if y < x then y else x) :: st)) : z_V X kC kS w pc L (vi y :: vi x :: st) := fun ad ts H locs ls cells slots ⟨h1, h2, h3, h4, h5, h6, h7, h8, h9⟩ => by
  have hb := h.2.2.2.2.1
  have := z_words_eq ad st
  exact va_mmin h.1 h.2.1 (h.2.2.2.2.2.2.trans h7.1.symm) h.2.2.1 (h.ts _ hl) (h.ts _ hs) (h.ts _ hi) (h.ts _ hc) (by omega) (by omega) (by omega) (by omega) hd (kk ad ts H locs ls cells slots ⟨h1, h2, h3, h4, h5, ⟨trivial, h6.2.2⟩, h7, h8, h9⟩)
/-- System.arraycopy of ints, from a cell to another -/
theorem z_copy {idx : Nat} {t u : z_T} {n0 n1 sp dp n : Nat} {f g : Nat → Int32} (h : z_H X cc own d) (hd : decode cc pc = .ok (.invokestatic idx, 3)) (hl : Cond.methodLink own idx arraycopyName ∈ z_F) (hna : Cond.native arraycopyName ∈ z_F) (hs : Cond.static arraycopyName ∈ z_F) (hi : Cond.initialized "java/lang/System" ∈ z_F) (ht : w t = some (z_ia n0 f)) (hu : w u = some (z_ia n1 g)) (h0 : n0 < 2 ^ 31 ∧ n1 < 2 ^ 31 ∧ sp + n ≤ n0 ∧ dp + n ≤ n1) (hst : z_words st ≤ 8) (kk : z_V X kC kS (z_set w u (z_ia n1 (va_cpy f g sp dp n))) (pc + 3) L st) : z_V X kC kS w pc L (vi (nI n) :: vi (nI dp) :: vr u :: vi (nI sp) :: vr t :: st) := fun ad ts H locs ls cells slots hh => by
  have hb := h.2.2.2.2.1
  have := z_words_eq ad st
  obtain ⟨q, hq, he⟩ := hh.2.1.find ht
  obtain ⟨q2, hq2, he2⟩ := hh.2.1.find hu
  have e1 : (nI sp).toNatClampNeg = sp := nI_clamp (by omega)
  have e2 : (nI dp).toNatClampNeg = dp := nI_clamp (by omega)
  have e3 : (nI n).toNatClampNeg = n := nI_clamp (by omega)
  refine va_copyi h.1 h.2.1 (h.2.2.2.2.2.2.trans hh.2.2.2.2.2.2.1.1.symm) h.2.2.1 (h.ts _ hl) (h.ts _ hna) (h.ts _ hs) (h.ts _ hi) h.2.2.2.1.1 hh.2.1.2.2.1 hh.2.1.2.2.2.1 hh.2.2.1 q q2 0 0 he he2 (z_tys_at (k := 0) (by omega)) (z_tys_at (k := 0) (by omega)) rfl (nI_pos (by omega)) (nI_pos (by omega)) (nI_pos (by omega)) (by omega) (by omega) (fun _ _ => rfl) (by omega) ?_ hd (fun H1 locs1 hP hD hS => ?_)
  · have e9 : nativeFrameWords "java/lang/System" "arraycopy" 5 + 11 ≤ 60 := by decide
    omega
  · rw [e1, e2, e3] at hP hD
    obtain ⟨h1, h2, h3, h4, h5, h6, h7, h8⟩ := hh
    have hm : ∀ q, w q ≠ none → z_set w u (z_ia n1 (va_cpy f g sp dp n)) q ≠ none := fun _ hq => z_set_some hq
    exact kk ad ts H1 locs1 ls cells slots ⟨h1, h2.put (c := z_ia n1 (va_cpy f g sp dp n)) hq2 trivial hP hD, hS, fun q hq => (h4 q hq).imp (hm q) id, z_okl_mono hm h5, z_oks_mono hm h6.2.2.2.2.2, h7, h8⟩
end ZC
end
section
/-! calls and returns -/
section ZK
variable {X : z_X} {cc : ByteArray} {own : String} {d kC kS : Nat} {w : z_w} {pc : Nat} {L : List (Nat × z_v)} {st : List z_v}
theorem z_St.readdr {D : va_G} {dA : Nat → ClassId} {A : Nat → Prop} {ad ad' : z_T → Nat} {w : z_w} {ts : List z_T} {H : Heap} (h : z_St D dA A ad w ts H) (he : ∀ t, w t ≠ none → ad' t = ad t) : z_St D dA A ad' w ts H := by
  have e : z_ls dA ad' w ts = z_ls dA ad w ts := by
    refine List.map_congr_left fun t ht => ?_
    have hw := (h.1 t).mpr ht
    rw [he t hw]
    cases hc : w t with
    | none => rfl
    | some c =>
      show (ad t, z_ce dA ad' c) = (ad t, z_ce dA ad c)
      rw [z_ce_eq (E0 := fun _ => False) (fun q hq => hq.elim (he q) False.elim) (h.2.2.2.2 t c hc)]
  exact ⟨h.1, h.2.1, by rw [e]; exact h.2.2.1, by rw [e]; exact h.2.2.2.1, h.2.2.2.2⟩
theorem z_St.weaken {D : va_G} {dA : Nat → ClassId} {A B : Nat → Prop} {ad : z_T → Nat} {w : z_w} {ts : List z_T} {H : Heap} (h : z_St D dA A ad w ts H) (hAB : ∀ q, A q → B q) : z_St D dA B ad w ts H := ⟨h.1, h.2.1, h.2.2.1, h.2.2.2.1.weaken (fun _ q _ => hAB q.1), h.2.2.2.2⟩
/-- what a contract asks of the start, and that frames don't matter to it -/
def z_Pc (D : va_G) (dA : Nat → ClassId) (ad : z_T → Nat) (ts : List z_T) (sz : Nat) (args : List z_v) (w : z_w) : Array Value → State → Prop := va_Pc (args.map (z_cv ad)) (fun U => U.heap.size = sz ∧ z_oks (fun _ => False) w args ∧ z_St D dA (fun _ => True) ad w ts U.heap ∧ z_K D dA U)
theorem z_Pc_blind {D : va_G} {dA : Nat → ClassId} {ad : z_T → Nat} {ts : List z_T} {sz : Nat} {args : List z_v} {w : z_w} : FrameBlind (z_Pc D dA ad ts sz args w) := fun a U g mk ⟨q1, q2, q3, q4, q5⟩ => ⟨q1, q2, q3, q4, z_K.same (s := U) (U := U.calling g mk a) rfl q5⟩
theorem z_Pc_of {D : va_G} {dA : Nat → ClassId} {A : Nat → Prop} {ad : z_T → Nat} {ts : List z_T} {args : List z_v} {w : z_w} {s U : State} {H : Heap} (hk : z_K D dA s) (hs : z_St D dA A ad w ts H) (ho : z_oks (fun _ => False) w args) (hU : U.heap = H) (hW : s.WarmedH U.vm) : z_Pc D dA ad ts H.size args w (args.map (z_cv ad)).toArray U := ⟨rfl, by rw [hU], ho, by rw [hU]; exact hs.weaken (fun _ _ => trivial), hk.moved hW⟩
/-- behind a call's run -/
theorem z_back (h : z_H X cc own d) {args : List z_v} {mc ms : Nat} {Po : Option z_v → z_w → Prop} {stk rest : List z_v} {a : Array Value}
    (hy : ∀ r w', Po r w' → ∀ t, x_E0 X t → w' t = none)
    (hso : ∀ w' : z_w, z_oks (x_E0 X) w' stk → z_oks (x_E0 X) w' rest)
    (hrun : ∀ (ad : z_T → Nat) (ts : List z_T) (H : Heap) (locs : List Loc) (ls : Array Slot) (cells slots : Nat), z_at X ad ts H locs ls cells slots (kC + mc) (kS + ms) w L stk → va_Run (x_p X) (x_l X) (x_e X) (x_R X) (x_s X) (x_m X) (x_a X) (x_b X) (x_me X) (x_c X) H locs cells slots mc ms (F0 (x_m X) pc ls (stk.map (z_cv ad))) (rest.map (z_cv ad)) (z_Qc (x_D X) (x_dA X) ad w H.size Po a) (z_fre w ad H.size))
    (kk : ∀ (r : Option z_v) (w' : z_w), Po r w' → z_V X kC kS w' (pc + 3) L (r.toList ++ rest)) : z_V X (kC + mc) (kS + ms) w pc L stk := fun ad ts H locs ls cells slots hh => by
  intro T hT XX
  obtain ⟨v, st₀, t, T', L', h0, X', hL, e1, e2, ⟨⟨r, w', ad', ts', e3, hp, ho, hs', hag⟩, hz, hk⟩, st'⟩ := hrun ad ts H locs ls cells slots hh T hT XX
  cases e3
  obtain ⟨h1, h2, h3, h4, h5, h6, h7, h8, h9⟩ := hh
  rw [h0] at hz hk
  have hfA : ∀ q, z_fre w ad H.size q → x_A X q := fun q hq => by
    rcases hq with ⟨u, hu, rfl⟩ | hq
    · cases hc : w u with
      | none => exact absurd hc hu
      | some c =>
        obtain ⟨i, -, hi⟩ := h2.find hc
        exact h2.2.2.2.1.2 i _ hi
    · exact h.2.2.2.2.2.1 q (Nat.le_trans h3.1 hq)
  have hd1 : ∀ q, w q ≠ none ∨ x_E0 X q → (fun q => if w' q ≠ none then ad' q else ad q) q = ad q := fun q hq => by
    show (if w' q ≠ none then ad' q else ad q) = ad q
    rcases hq with hq | hq
    · rw [if_pos (hag q hq).1, (hag q hq).2]
    · rw [if_neg (by rw [hy r w' hp q hq]; simp)]
  have hd2 : ∀ q, w' q ≠ none → (fun q => if w' q ≠ none then ad' q else ad q) q = ad' q := fun q hq => if_pos hq
  have hmono : ∀ q, w q ≠ none → w' q ≠ none := fun q hq => (hag q hq).1
  have hS' : va_S (x_A X) (x_H0 X) t.heap (locs ++ L') := ⟨Nat.le_trans h3.1 hz, fun q z1 z2 => by rw [hk q (Nat.lt_of_lt_of_le z1 h3.1) (fun z => z2 (hfA q z))]; exact h3.2.1 q z1 z2, fun q hq => by
    rcases List.mem_append.mp hq with z | z
    · exact h3.2.2 q z
    · exact hfA _ (hL q z)⟩
  have hat : z_at X (fun q => if w' q ≠ none then ad' q else ad q) ts' t.heap (locs ++ L') ls (cells + mc) (slots + ms) kC kS w' L (r.toList ++ rest) := by
    refine ⟨fun q hq => ?_, (hs'.readdr hd2).weaken hfA, hS', fun q hq => (h4 q hq).imp (hmono q) id, z_okl_mono hmono h5, ?_, ?_, by omega, by omega⟩
    · rw [hd1 q (h4 q hq)]
      exact h1 q hq
    · have q1 := z_oks_mono hmono (hso _ h6)
      cases r with
      | none => exact q1
      | some r => exact ⟨z_okv_up ho.1, q1⟩
    · rw [z_mapl_eq hd1 h5]
      exact h7
  obtain ⟨t2, a1, b1⟩ := kk r w' hp _ _ _ _ _ _ _ hat T' e1 X'
  refine ⟨t2, st' t2 ?_, b1⟩
  have e5 : (r.toList ++ rest).map (z_cv (fun q => if w' q ≠ none then ad' q else ad q)) = (r.map (z_cv ad')).toList ++ rest.map (z_cv ad) := by
    rw [List.map_append, z_map_eq hd1 (hso _ h6)]
    congr 1
    cases r with
    | none => rfl
    | some r => exact congrArg (fun z => [z]) (z_cv_eq (E0 := fun _ => False) (fun q hq => hq.elim (hd2 q) False.elim) ho.1)
  rw [e5] at a1
  exact a1
/-- a method, as calls need it -/
def z_ym (y : MethodName) (cc : ByteArray) (nL : Nat) (ret : Option FieldType) (n : Nat) : Prop := Cond.code y cc nL ret ∈ z_F ∧ Cond.initialized y.cls ∈ z_F ∧ y.cls ≠ "java/lang/invoke/MethodHandle" ∧ y.cls ≠ "java/lang/invoke/VarHandle" ∧ (parseMethodDescriptor y.desc).map (fun d => d.parameters.length) = some n ∧ plainName y.cls = true ∧ nL ≤ 80
theorem z_good_ws {y : MethodName} {cc : ByteArray} {nL : Nat} {ret : Option FieldType} {n : Nat} (hy : z_ym y cc nL ret n) : GoodIn z_F [.code y cc nL ret] := fun w hw => by
  rw [List.mem_singleton.mp hw]
  exact ⟨hy.1, good_of_word (List.mem_filter.mp hy.1).2⟩
theorem z_goodF {ws : List Cond} (h : ∀ w ∈ ws, w ∈ z_F) : GoodIn z_F ws := fun w hw => ⟨h w hw, good_of_word (List.mem_filter.mp (h w hw)).2⟩
theorem z_len {n : Nat} {As : List z_v} (ad : z_T → Nat) (h : As.length = n) : (As.map (z_cv ad)).length = n := by rw [List.length_map]; exact h
theorem z_stk {As rest : List z_v} (ad : z_T → Nat) : (As.reverse ++ rest).map (z_cv ad) = (As.map (z_cv ad)).reverse ++ rest.map (z_cv ad) := by rw [List.map_append, List.map_reverse]
theorem z_oks_app {E0 : z_T → Prop} {w : z_w} {a b : List z_v} : z_oks E0 w (a ++ b) ↔ z_oks E0 w a ∧ z_oks E0 w b := by
  rw [z_oks_mem, z_oks_mem, z_oks_mem]
  exact ⟨fun h => ⟨fun v hv => h v (List.mem_append_left _ hv), fun v hv => h v (List.mem_append_right _ hv)⟩, fun h v hv => (List.mem_append.mp hv).elim (h.1 v) (h.2 v)⟩
theorem z_oks_rev {E0 : z_T → Prop} {w : z_w} {a : List z_v} : z_oks E0 w a.reverse ↔ z_oks E0 w a := by
  rw [z_oks_mem, z_oks_mem]
  exact ⟨fun h v hv => h v (List.mem_reverse.mpr hv), fun h v hv => h v (List.mem_reverse.mp hv)⟩
theorem z_reach (h : z_H X cc own d) {d' nL : Nat} (hdd : d' + 1 ≤ d) (hnl : nL ≤ 80) (mc ms : Nat) : (z_rm d' mc ms).frames + 1 ≤ (x_R X).frames ∧ 8 + (nL + 11) + (z_rm d' mc ms).locals ≤ (x_R X).locals := by
  have hb := h.2.2.2.2.1
  refine ⟨by show d' + 1 ≤ _; omega, ?_⟩
  show 8 + (nL + 11) + 100 * d' ≤ _
  omega
theorem z_words_room {ls : Array Slot} {stk : List Value} (ad : z_T → Nat) {rest : List z_v} (h : z_words rest ≤ 8) : 2 * (F0 (x_m X) pc ls stk).monitorRoom + ((rest.map (z_cv ad)).map fun v => v.category).sum ≤ 8 := by
  have := z_words_eq ad rest
  show 2 * 0 + _ ≤ 8
  omega
theorem z_bud {ad : z_T → Nat} {ts : List z_T} {H : Heap} {locs : List Loc} {ls : Array Slot} {cells slots mc ms : Nat} {stk : List z_v} (h : z_H X cc own d) (hh : z_at X ad ts H locs ls cells slots (kC + mc) (kS + ms) w L stk) : cells + mc ≤ (x_R X).cells ∧ slots + ms ≤ (x_R X).slots := by
  obtain ⟨-, -, -, -, -, -, -, q1, q2⟩ := hh
  have hb := h.2.2.2.2.1
  omega
variable {y : MethodName} {b : ByteArray} {nL n : Nat} {ret : Option FieldType} {d' mc ms : Nat} {Po : Option z_v → z_w → Prop} {idx : Nat} {As : List z_v} {t : z_T}
/-- invokevirtual, of an object of class number ci -/
theorem z_callV {ci : Nat} {C : String} {T : u_T} {N : Nat} {fs : List z_v} (h : z_H X cc own d) (hd : decode cc pc = .ok (.invokevirtual idx, 3)) (hx : ∀ q ∈ As, z_okv (x_E0 X) w q → z_okv (fun _ => False) w q) (hy0 : ∀ r w', Po r w' → ∀ t, x_E0 X t → w' t = none) (hM : z_M (x_G X) y b nL ret d' mc ms (vr t :: As) w Po) (hy : z_ym y b nL ret n) (hl : Cond.methodLink own idx y ∈ z_F) (hi : Cond.instanceMethod y ∈ z_F) (hc : vwCl[ci]? = some (C, T, N)) (hse : Cond.selects C y y ∈ z_F) (hic : Cond.initialized C ∈ z_F) (hyc : y.cls = C) (hw : w t = some (z_ob ci fs)) (hn : As.length = n) (hdd : d' + 1 ≤ d) (hst : z_words st ≤ 8) (kk : ∀ r w', Po r w' → z_V X kC kS w' (pc + 3) L (r.toList ++ st)) : z_V X (kC + mc) (kS + ms) w pc L (As.reverse ++ vr t :: st) := by
  refine z_back (args := vr t :: As) (a := ((vr t :: As).map (z_cv (fun _ => 0))).toArray) h hy0 (fun w' q => (z_oks_app.mp q).2.2) (fun ad ts H locs ls cells slots hh => ?_) kk
  obtain ⟨h1, h2, h3, h4, h5, h6, h7, h8⟩ := id hh
  have hoa : z_oks (fun _ => False) w (vr t :: As) := ⟨Or.inl (by rw [hw]; simp), z_oks_mem.mpr fun q hq => hx q hq (z_oks_mem.mp (z_oks_rev.mp (z_oks_app.mp h6).1) q hq)⟩
  have ws : ∀ v ∈ ([.methodLink own idx y, .instanceMethod y, .selects C y y, .initialized C] : List Cond), v ∈ z_F := fun v hv => by
    rcases List.mem_cons.mp hv with rfl | hv; · exact hl
    rcases List.mem_cons.mp hv with rfl | hv; · exact hi
    rcases List.mem_cons.mp hv with rfl | hv; · exact hse
    rcases List.mem_cons.mp hv with rfl | hv; · exact hic
    cases hv
  have hG : GoodIn z_F (wsV own idx C y [.code y b nL ret]) := fun v hv => by
    rcases List.mem_append.mp hv with hv | hv
    · exact z_goodF ws v hv
    · exact z_good_ws hy v hv
  obtain ⟨i, -, hi2⟩ := h2.find hw
  rw [z_stk]
  exact va_runV (As := As.map (z_cv ad)) (rest := st.map (z_cv ad)) ⟨h.1, h.2.1, h.2.2.2.2.2.2, h.2.2.1, h.ts⟩ (hM ad ts H.size) (cwV n h.ts hG rfl rfl rfl ⟨hyc, hy.2.2.1, hy.2.2.2.1, hy.2.2.2.2.1⟩ (z_reach h hdd hy.2.2.2.2.2.2 mc ms)) ⟨z_Pc_blind, va_recv h.2.2.2.1.1 h2.2.2.1 hc hi2, fun U hU hW => z_Pc_of h.2.2.2.1 h2 hoa hU hW⟩ rfl (z_len ad hn) h7.1 rfl (z_words_room ad hst) hd (z_bud h hh)
theorem z_callS (h : z_H X cc own d) (hd : decode cc pc = .ok (.invokestatic idx, 3)) (hx : ∀ q ∈ As, z_okv (x_E0 X) w q → z_okv (fun _ => False) w q) (hy0 : ∀ r w', Po r w' → ∀ t, x_E0 X t → w' t = none) (hM : z_M (x_G X) y b nL ret d' mc ms As w Po) (hy : z_ym y b nL ret n) (hl : Cond.methodLink own idx y ∈ z_F) (hs : Cond.static y ∈ z_F) (hn : As.length = n) (hdd : d' + 1 ≤ d) (hst : z_words st ≤ 8) (kk : ∀ r w', Po r w' → z_V X kC kS w' (pc + 3) L (r.toList ++ st)) : z_V X (kC + mc) (kS + ms) w pc L (As.reverse ++ st) := by
  refine z_back (args := As) (a := (As.map (z_cv (fun _ => 0))).toArray) h hy0 (fun w' q => (z_oks_app.mp q).2) (fun ad ts H locs ls cells slots hh => ?_) kk
  obtain ⟨h1, h2, h3, h4, h5, h6, h7, h8⟩ := id hh
  have hoa : z_oks (fun _ => False) w As := z_oks_mem.mpr fun q hq => hx q hq (z_oks_mem.mp (z_oks_rev.mp (z_oks_app.mp h6).1) q hq)
  rw [z_stk]
  exact va_runS (As := As.map (z_cv ad)) (rest := st.map (z_cv ad)) ⟨h.1, h.2.1, h.2.2.2.2.2.2, h.2.2.1, h.ts⟩ (hM ad ts H.size) ⟨callB_of n h.ts (z_good_ws hy) rfl rfl rfl (h.ts _ hy.2.1) (h.ts _ hl) ⟨hy.2.2.1, hy.2.2.2.1, hy.2.2.2.2.1⟩ (z_reach h hdd hy.2.2.2.2.2.2 mc ms), h.ts _ hs⟩ ⟨z_Pc_blind, fun U hU hW => z_Pc_of h.2.2.2.1 h2 hoa hU hW⟩ rfl (z_len ad hn) h7.1 rfl (z_words_room ad hst) hd (z_bud h hh)
theorem z_callI (h : z_H X cc own d) (hd : decode cc pc = .ok (.invokespecial idx, 3)) (hx : ∀ q ∈ As, z_okv (x_E0 X) w q → z_okv (fun _ => False) w q) (hy0 : ∀ r w', Po r w' → ∀ t, x_E0 X t → w' t = none) (hM : z_M (x_G X) y b nL none d' mc ms (vr t :: As) w Po) (hy : z_ym y b nL none n) (hl : Cond.methodLink own idx y ∈ z_F) (hi : Cond.instanceMethod y ∈ z_F) (hy1 : y.name = "<init>") (ht : w t ≠ none) (hn : As.length = n) (hdd : d' + 1 ≤ d) (hst : z_words st ≤ 8) (kk : ∀ r w', Po r w' → z_V X kC kS w' (pc + 3) L (r.toList ++ st)) : z_V X (kC + mc) (kS + ms) w pc L (As.reverse ++ vr t :: st) := by
  refine z_back (args := vr t :: As) (a := ((vr t :: As).map (z_cv (fun _ => 0))).toArray) h hy0 (fun w' q => (z_oks_app.mp q).2.2) (fun ad ts H locs ls cells slots hh => ?_) kk
  obtain ⟨h1, h2, h3, h4, h5, h6, h7, h8⟩ := id hh
  have hoa : z_oks (fun _ => False) w (vr t :: As) := ⟨Or.inl ht, z_oks_mem.mpr fun q hq => hx q hq (z_oks_mem.mp (z_oks_rev.mp (z_oks_app.mp h6).1) q hq)⟩
  rw [z_stk]
  exact va_runI (As := As.map (z_cv ad)) (rest := st.map (z_cv ad)) ⟨h.1, h.2.1, h.2.2.2.2.2.2, h.2.2.1, h.ts⟩ (hM ad ts H.size) (cwI n h.ts (z_good_ws hy) rfl rfl rfl (h.ts _ hy.2.1) (h.ts _ hl) (h.ts _ hi) hy1 ⟨hy.2.2.1, hy.2.2.2.1, hy.2.2.2.2.1⟩ (z_reach h hdd hy.2.2.2.2.2.2 mc ms)) ⟨z_Pc_blind, fun U hU hW => z_Pc_of h.2.2.2.1 h2 hoa hU hW⟩ rfl (z_len ad hn) h7.1 rfl (z_words_room ad hst) hd (z_bud h hh)
theorem z_callVN {host : String} {ci : Nat} {C : String} {T : u_T} {N : Nat} {fs : List z_v} (h : z_H X cc own d) (hd : decode cc pc = .ok (.invokevirtual idx, 3)) (hx : ∀ q ∈ As, z_okv (x_E0 X) w q → z_okv (fun _ => False) w q) (hy0 : ∀ r w', Po r w' → ∀ t, x_E0 X t → w' t = none) (hM : z_M (x_G X) y b nL ret d' mc ms (vr t :: As) w Po) (hy : z_ym y b nL ret n) (hl : Cond.methodLinkNest own idx y host ∈ lw_tbl) (hi : Cond.instanceMethod y ∈ z_F) (hc : vwCl[ci]? = some (C, T, N)) (hse : Cond.selects C y y ∈ z_F) (hw : w t = some (z_ob ci fs)) (hn : As.length = n) (hdd : d' + 1 ≤ d) (hst : z_words st ≤ 8) (kk : ∀ r w', Po r w' → z_V X kC kS w' (pc + 3) L (r.toList ++ st)) : z_V X (kC + mc) (kS + ms) w pc L (As.reverse ++ vr t :: st) := by
  refine z_back (args := vr t :: As) (a := ((vr t :: As).map (z_cv (fun _ => 0))).toArray) h hy0 (fun w' q => (z_oks_app.mp q).2.2) (fun ad ts H locs ls cells slots hh => ?_) kk
  obtain ⟨h1, h2, h3, h4, h5, h6, h7, h8⟩ := id hh
  have hoa : z_oks (fun _ => False) w (vr t :: As) := ⟨Or.inl (by rw [hw]; simp), z_oks_mem.mpr fun q hq => hx q hq (z_oks_mem.mp (z_oks_rev.mp (z_oks_app.mp h6).1) q hq)⟩
  obtain ⟨i, -, hi2⟩ := h2.find hw
  rw [z_stk]
  exact va_runVN (As := As.map (z_cv ad)) (rest := st.map (z_cv ad)) ⟨h.1, h.2.1, h.2.2.2.2.2.2, h.2.2.1, h.ts⟩ (hM ad ts H.size) ⟨va_cnB n h.ts (z_good_ws hy) rfl rfl rfl (h.2.2.2.1.2.2 _ hl rfl) (h.ts _ hy.2.1) ⟨hy.2.2.1, hy.2.2.2.1, hy.2.2.2.2.1⟩ (z_reach h hdd hy.2.2.2.2.2.2 mc ms), h.ts _ hi, h.ts _ hse⟩ ⟨z_Pc_blind, va_recv h.2.2.2.1.1 h2.2.2.1 hc hi2, fun U hU hW => z_Pc_of h.2.2.2.1 h2 hoa hU hW⟩ rfl (z_len ad hn) h7.1 rfl (z_words_room ad hst) hd (z_bud h hh)
theorem z_callSN {host : String} (h : z_H X cc own d) (hd : decode cc pc = .ok (.invokestatic idx, 3)) (hx : ∀ q ∈ As, z_okv (x_E0 X) w q → z_okv (fun _ => False) w q) (hy0 : ∀ r w', Po r w' → ∀ t, x_E0 X t → w' t = none) (hM : z_M (x_G X) y b nL ret d' mc ms As w Po) (hy : z_ym y b nL ret n) (hl : Cond.methodLinkNest own idx y host ∈ lw_tbl) (hs : Cond.static y ∈ z_F) (hn : As.length = n) (hdd : d' + 1 ≤ d) (hst : z_words st ≤ 8) (kk : ∀ r w', Po r w' → z_V X kC kS w' (pc + 3) L (r.toList ++ st)) : z_V X (kC + mc) (kS + ms) w pc L (As.reverse ++ st) := by
  refine z_back (args := As) (a := (As.map (z_cv (fun _ => 0))).toArray) h hy0 (fun w' q => (z_oks_app.mp q).2) (fun ad ts H locs ls cells slots hh => ?_) kk
  obtain ⟨h1, h2, h3, h4, h5, h6, h7, h8⟩ := id hh
  have hoa : z_oks (fun _ => False) w As := z_oks_mem.mpr fun q hq => hx q hq (z_oks_mem.mp (z_oks_rev.mp (z_oks_app.mp h6).1) q hq)
  rw [z_stk]
  exact va_runSN (As := As.map (z_cv ad)) (rest := st.map (z_cv ad)) ⟨h.1, h.2.1, h.2.2.2.2.2.2, h.2.2.1, h.ts⟩ (hM ad ts H.size) ⟨va_cnB n h.ts (z_good_ws hy) rfl rfl rfl (h.2.2.2.1.2.2 _ hl rfl) (h.ts _ hy.2.1) ⟨hy.2.2.1, hy.2.2.2.1, hy.2.2.2.2.1⟩ (z_reach h hdd hy.2.2.2.2.2.2 mc ms), h.ts _ hs, trivial⟩ ⟨z_Pc_blind, fun U hU hW => z_Pc_of h.2.2.2.1 h2 hoa hU hW⟩ rfl (z_len ad hn) h7.1 rfl (z_words_room ad hst) hd (z_bud h hh)
theorem z_callIN {host : String} (h : z_H X cc own d) (hd : decode cc pc = .ok (.invokespecial idx, 3)) (hx : ∀ q ∈ As, z_okv (x_E0 X) w q → z_okv (fun _ => False) w q) (hy0 : ∀ r w', Po r w' → ∀ t, x_E0 X t → w' t = none) (hM : z_M (x_G X) y b nL none d' mc ms (vr t :: As) w Po) (hy : z_ym y b nL none n) (hl : Cond.methodLinkNest own idx y host ∈ lw_tbl) (hi : Cond.instanceMethod y ∈ z_F) (hy1 : y.name = "<init>") (ht : w t ≠ none) (hn : As.length = n) (hdd : d' + 1 ≤ d) (hst : z_words st ≤ 8) (kk : ∀ r w', Po r w' → z_V X kC kS w' (pc + 3) L (r.toList ++ st)) : z_V X (kC + mc) (kS + ms) w pc L (As.reverse ++ vr t :: st) := by
  refine z_back (args := vr t :: As) (a := ((vr t :: As).map (z_cv (fun _ => 0))).toArray) h hy0 (fun w' q => (z_oks_app.mp q).2.2) (fun ad ts H locs ls cells slots hh => ?_) kk
  obtain ⟨h1, h2, h3, h4, h5, h6, h7, h8⟩ := id hh
  have hoa : z_oks (fun _ => False) w (vr t :: As) := ⟨Or.inl ht, z_oks_mem.mpr fun q hq => hx q hq (z_oks_mem.mp (z_oks_rev.mp (z_oks_app.mp h6).1) q hq)⟩
  rw [z_stk]
  exact va_runIN (As := As.map (z_cv ad)) (rest := st.map (z_cv ad)) ⟨h.1, h.2.1, h.2.2.2.2.2.2, h.2.2.1, h.ts⟩ (hM ad ts H.size) ⟨va_cnB n h.ts (z_good_ws hy) rfl rfl rfl (h.2.2.2.1.2.2 _ hl rfl) (h.ts _ hy.2.1) ⟨hy.2.2.1, hy.2.2.2.1, hy.2.2.2.2.1⟩ (z_reach h hdd hy.2.2.2.2.2.2 mc ms), hy1, h.ts _ hi⟩ ⟨z_Pc_blind, fun U hU hW => z_Pc_of h.2.2.2.1 h2 hoa hU hW⟩ rfl (z_len ad hn) h7.1 rfl (z_words_room ad hst) hd (z_bud h hh)
/-- where the context belongs to a method with contract Po from world w0 -/
def z_R (X : z_X) (w0 : z_w) (ret : Option FieldType) (Po : Option z_v → z_w → Prop) : Prop :=
  x_Q X = MQ (x_b X) (z_Qc (x_D X) (x_dA X) (x_ad X) w0 (x_H0 X).size Po) (x_a X) (x_s X) (x_mc X) (x_ms X) (z_fre w0 (x_ad X) (x_H0 X).size) ∧ x_A X = z_fre w0 (x_ad X) (x_H0 X).size ∧ x_P0 X = (fun t => w0 t ≠ none) ∧ x_H0 X = (x_s X).heap ∧ (x_me X).locks = false ∧ (∀ t, ¬ x_E0 X t) ∧ (x_me X).sig.returnType = ret
theorem z_end {w0 : z_w} {ret : Option FieldType} {Po : Option z_v → z_w → Prop} (hr : z_R X w0 ret Po) {r : Option z_v} {stk : List z_v} (hp : Po r w) {ad : z_T → Nat} {ts : List z_T} {H : Heap} {locs : List Loc} {ls : Array Slot} {cells slots : Nat} (hh : z_at X ad ts H locs ls cells slots kC kS w L stk) (hs : z_oks (x_E0 X) w stk → z_oks (x_E0 X) w r.toList) :
    (∀ t : State, t.heap = H → (x_s X).WarmedH t.vm → z_Qc (x_D X) (x_dA X) (x_ad X) w0 (x_H0 X).size Po (x_a X) (x_s X) (.returned (r.map (z_cv ad))) t) ∧ ∀ q ∈ locs, z_fre w0 (x_ad X) (x_H0 X).size q.base := by
  obtain ⟨r1, r2, r3, r4, r5, r6, r7⟩ := hr
  obtain ⟨h1, h2, h3, h4, h5, h6, h7, h8, h9⟩ := hh
  rw [r2] at h2 h3
  rw [r3] at h1 h4
  refine ⟨fun t ht hW => ⟨⟨r, w, ad, ts, rfl, hp, z_oks_no r6 (hs h6), by rw [ht]; exact h2, fun q hq => ⟨(h4 q hq).elim id (fun z => absurd z (r6 q)), h1 q hq⟩⟩, ?_⟩, h3.2.2⟩
  rw [r4] at h3 ⊢
  exact h3.F ht
theorem z_iret {w0 : z_w} {Po : Option z_v → z_w → Prop} {x : Int32} (h : z_H X cc own d) (hd : decode cc pc = .ok (.ireturn, 1)) (hr : z_R X w0 (some .int) Po) (hp : Po (some (vi x)) w) : z_V X kC kS w pc L [vi x] := fun ad ts H locs ls cells slots hh => by
  obtain ⟨e1, e2⟩ := z_end hr hp hh (fun q => q)
  refine W.widen (k := x_mc X) (n := x_ms X) (by have := hh.2.2.2.2.2.2.2.1; omega) (by have := hh.2.2.2.2.2.2.2.2; omega) ?_
  rw [hr.1]
  exact W.iret (v := x) h.1 h.2.1 hr.2.2.2.2.2.2 e1 e2 hd hr.2.2.2.2.1
/-- ireturn of a boolean that is 0 or 1 -/
theorem z_zret {w0 : z_w} {Po : Option z_v → z_w → Prop} {x : Int32} (h : z_H X cc own d) (hd : decode cc pc = .ok (.ireturn, 1)) (hr : z_R X w0 (some .boolean) Po) (hx : narrow .boolean (.int x) = .int x) (hp : Po (some (vi x)) w) : z_V X kC kS w pc L [vi x] := fun ad ts H locs ls cells slots hh => by
  obtain ⟨e1, e2⟩ := z_end hr hp hh (fun q => q)
  refine W.widen (k := x_mc X) (n := x_ms X) (by have := hh.2.2.2.2.2.2.2.1; omega) (by have := hh.2.2.2.2.2.2.2.2; omega) ?_
  rw [hr.1]
  exact W.zret (v := x) h.1 h.2.1 hr.2.2.2.2.2.2 hx e1 e2 hd hr.2.2.2.2.1
theorem z_lret {w0 : z_w} {Po : Option z_v → z_w → Prop} {x : Int64} (h : z_H X cc own d) (hd : decode cc pc = .ok (.lreturn, 1)) (hr : z_R X w0 (some .long) Po) (hp : Po (some (vl x)) w) : z_V X kC kS w pc L [vl x] := fun ad ts H locs ls cells slots hh => by
  obtain ⟨e1, e2⟩ := z_end hr hp hh (fun q => q)
  refine W.widen (k := x_mc X) (n := x_ms X) (by have := hh.2.2.2.2.2.2.2.1; omega) (by have := hh.2.2.2.2.2.2.2.2; omega) ?_
  rw [hr.1]
  exact W.lret (v := x) h.1 h.2.1 hr.2.2.2.2.2.2 e1 e2 hd hr.2.2.2.2.1
theorem z_vret {w0 : z_w} {Po : Option z_v → z_w → Prop} (h : z_H X cc own d) (hd : decode cc pc = .ok (.return_, 1)) (hr : z_R X w0 none Po) (hp : Po none w) : z_V X kC kS w pc L [] := fun ad ts H locs ls cells slots hh => by
  obtain ⟨e1, e2⟩ := z_end (r := none) hr hp hh (fun q => q)
  refine W.widen (k := x_mc X) (n := x_ms X) (by have := hh.2.2.2.2.2.2.2.1; omega) (by have := hh.2.2.2.2.2.2.2.2; omega) ?_
  rw [hr.1]
  exact W.vret h.1 h.2.1 hr.2.2.2.2.2.2 e1 e2 hd hr.2.2.2.2.1
theorem z_aret {w0 : z_w} {Po : Option z_v → z_w → Prop} {rt : FieldType} {o : Option z_T} (h : z_H X cc own d) (hd : decode cc pc = .ok (.areturn, 1)) (hr : z_R X w0 (some rt) Po) (hrt : (∃ n, rt = .object n) ∨ ∃ t, rt = .array t) (hp : Po (some (.inr (.inr o))) w) : z_V X kC kS w pc L [.inr (.inr o)] := fun ad ts H locs ls cells slots hh => by
  obtain ⟨e1, e2⟩ := z_end hr hp hh (fun q => q)
  refine W.widen (k := x_mc X) (n := x_ms X) (by have := hh.2.2.2.2.2.2.2.1; omega) (by have := hh.2.2.2.2.2.2.2.2; omega) ?_
  rw [hr.1]
  refine W.aret (v := z_cv ad (.inr (.inr o))) h.1 h.2.1 hr.2.2.2.2.2.2 hrt ?_ e1 e2 hd hr.2.2.2.2.1
  cases o with
  | none => exact Or.inl rfl
  | some t => exact Or.inr ⟨_, rfl⟩
def z_args : Nat → List z_v → List (Nat × z_v)
  | _, [] => []
  | i, v :: vs => (i, v) :: z_args (bif z_c2 v then i + 2 else i + 1) vs
theorem z_args_eq (ad : z_T → Nat) : ∀ (i : Nat) (vs : List z_v), (z_args i vs).map (fun q => (q.1, z_cv ad q.2)) = lv_args i (vs.map (z_cv ad))
  | _, [] => rfl
  | i, v :: vs => by
    show (i, z_cv ad v) :: _ = (i, z_cv ad v) :: lv_args (if (z_cv ad v).category = 2 then i + 2 else i + 1) (vs.map (z_cv ad))
    rw [z_args_eq ad _ vs, z_cat]
    by_cases hc : z_c2 v = true <;> simp [hc]
theorem z_args_ok {E0 : z_T → Prop} {w : z_w} : ∀ {i : Nat} {vs : List z_v}, z_oks E0 w vs → z_okl E0 w (z_args i vs)
  | _, [], _ => fun q h => by cases h
  | i, v :: vs, h => fun q hq => by
    rcases List.mem_cons.mp hq with rfl | hq
    · exact h.1
    · exact z_args_ok h.2 q hq
/-- a method is proved from its first instruction on, in any context -/
theorem z_met {G : z_G} {d mc ms : Nat} {args : List z_v} {w : z_w} {Po : Option z_v → z_w → Prop} {y : MethodName} {cc : ByteArray} {nL : Nat} {ret : Option FieldType} {n : Nat} (hy : z_ym y cc nL ret n) (hd1 : 1 ≤ d) (hlen : (z_args 0 args).length ≤ nL ∧ (args.map (fun v => if z_c2 v = true then 2 else 1)).sum ≤ nL)
    (body : ∀ X : z_X, x_G X = G → x_n X = nL → x_mc X = mc → x_ms X = ms → (x_me X).name = y.name → z_H X cc y.cls d → z_R X w ret Po → z_V X mc ms w 0 (z_args 0 args) []) : z_M G y cc nL ret d mc ms args w Po := by
  obtain ⟨l, D, dA⟩ := G
  intro ad ts sz
  refine Met.ofW (cc := cc) (maxL := nL) (ret := ret) hy.2.2.2.2.2.1 rfl ?_
  intro p e s m a below meth c s₁ B hml hv
  obtain ⟨rfl, hsz, ho, hS, hK⟩ := hv
  have hown : s.vm.findClass y.cls = some m.cls := findClass_of_methodNamed B.named
  have hnm : meth.name = y.name := (name_of_methodNamed B.named B.method).1
  subst hsz
  have hl0 : (lg_sl (args.map (z_cv ad))).length ≤ nL := by
    have e : (lg_sl (args.map (z_cv ad))).length = (args.map (fun v => if z_c2 v = true then 2 else 1)).sum := by
      rw [lg_sl, List.length_flatMap, List.map_map]
      congr 1
      refine List.map_congr_left fun v _ => ?_
      show (if (z_cv ad v).category = 2 then [Slot.val (z_cv ad v), .second] else [.val (z_cv ad v)]).length = _
      rw [z_cat]
      by_cases hc : z_c2 v = true <;> simp [hc]
    omega
  have hl := lv_entry (args.map (z_cv ad)) (n := nL) hl0
  rw [lg_entry_eq]
  generalize (lg_sl (args.map (z_cv ad)) ++ List.replicate (nL - (lg_sl (args.map (z_cv ad))).length) Slot.unset).toArray = ls at hl ⊢
  rw [← z_args_eq] at hl
  have hdom : ∀ t, w t ≠ none → ∃ c, w t = some c := fun t ht => by
    cases hc : w t with
    | none => exact absurd hc ht
    | some c => exact ⟨c, rfl⟩
  let X : z_X := (p, l, e, (headSpec [.code y cc nL ret] (z_rm d mc ms)).room, s, m, (args.map (z_cv ad)).toArray, below, meth, c, MQ below (z_Qc D dA ad w s.heap.size Po) (args.map (z_cv ad)).toArray s mc ms (z_fre w ad s.heap.size), D, dA, z_fre w ad s.heap.size, s.heap, (fun t => w t ≠ none), (fun _ => False), ad, nL, mc, ms)
  have hV : z_V X mc ms w 0 (z_args 0 args) [] := body X rfl rfl rfl rfl hnm ⟨B.exec, B.bytes, hown, hK, ⟨rfl, rfl, Nat.le_refl d, Nat.le_refl (100 * d), hd1⟩, fun q hq => Or.inr hq, hml⟩ ⟨rfl, rfl, rfl, rfl, B.notSynchronized, fun _ h => h, B.returns⟩
  refine hV ad ts s.heap [] ls 0 0 ⟨fun _ _ => rfl, ⟨hS.1, hS.2.1, hS.2.2.1, ⟨hS.2.2.2.1.1, fun k q hk => ?_⟩, hS.2.2.2.2⟩, va_S.rf, fun t ht => Or.inl ht, z_args_ok (z_oks_mem.mpr fun v hv => z_okv_up (z_oks_mem.mp ho v hv)), trivial, hl, by show 0 + mc ≤ mc; omega, by show 0 + ms ≤ ms; omega⟩
  rw [z_ls, List.getElem?_map] at hk
  cases ht : ts[k]? with
  | none => rw [ht] at hk; cases hk
  | some t =>
    rw [ht] at hk
    cases hk
    exact Or.inl ⟨t, (hS.1 t).mpr (List.mem_of_getElem? ht), rfl⟩
end ZK
end
section
/-! the words of the tables that the rows need, by their places (written by a program) -/
set_option maxRecDepth 20000 in
theorem fcX0 : ∀ w ∈ wsX00, w ∈ z_F := z_inFs _ [601, 603, 605, 607, 609, 611, 613] (by decide +kernel) (by decide +kernel)
theorem icX0 : Cond.initialized RX0 ∈ z_F := z_inF (i := 48) (by decide +kernel) rfl
set_option maxRecDepth 20000 in
theorem fcX1 : ∀ w ∈ wsX10, w ∈ z_F := z_inFs _ [372, 374, 376, 378, 380, 382] (by decide +kernel) (by decide +kernel)
theorem icX1 : Cond.initialized RX1 ∈ z_F := z_inF (i := 45) (by decide +kernel) rfl
set_option maxRecDepth 20000 in
theorem fcX2 : ∀ w ∈ wsX20, w ∈ z_F := z_inFs _ [104, 106, 108, 110, 112] (by decide +kernel) (by decide +kernel)
theorem icX2 : Cond.initialized RX2 ∈ z_F := z_inF (i := 38) (by decide +kernel) rfl
set_option maxRecDepth 20000 in
theorem fcX3 : ∀ w ∈ wsX30, w ∈ z_F := z_inFs _ [154, 156, 158, 160, 162, 164, 166, 168, 170, 172, 174, 176, 178, 180] (by decide +kernel) (by decide +kernel)
theorem icX3 : Cond.initialized RX3 ∈ z_F := z_inF (i := 39) (by decide +kernel) rfl
set_option maxRecDepth 20000 in
theorem fcX4 : ∀ w ∈ wsX40, w ∈ z_F := z_inFs _ [227, 229, 231, 233, 235, 237] (by decide +kernel) (by decide +kernel)
theorem icX4 : Cond.initialized RX4 ∈ z_F := z_inF (i := 41) (by decide +kernel) rfl
set_option maxRecDepth 20000 in
theorem fcX5 : ∀ w ∈ wsX50, w ∈ z_F := z_inFs _ [258, 260, 262, 264, 266, 268, 270, 272, 274, 276] (by decide +kernel) (by decide +kernel)
theorem icX5 : Cond.initialized RX5 ∈ z_F := z_inF (i := 42) (by decide +kernel) rfl
set_option maxRecDepth 20000 in
theorem fcX6 : ∀ w ∈ wsX60, w ∈ z_F := z_inFs _ [289, 291] (by decide +kernel) (by decide +kernel)
theorem icX6 : Cond.initialized RX6 ∈ z_F := z_inF (i := 43) (by decide +kernel) rfl
set_option maxRecDepth 20000 in
theorem fcX7 : ∀ w ∈ wsX70, w ∈ z_F := z_inFs _ [695, 697, 699, 701] (by decide +kernel) (by decide +kernel)
theorem icX7 : Cond.initialized RX7 ∈ z_F := z_inF (i := 50) (by decide +kernel) rfl
set_option maxRecDepth 20000 in
theorem fcX8 : ∀ w ∈ wsX80, w ∈ z_F := z_inFs _ [196, 198, 200, 202, 204] (by decide +kernel) (by decide +kernel)
theorem icX8 : Cond.initialized RX8 ∈ z_F := z_inF (i := 40) (by decide +kernel) rfl
set_option maxRecDepth 20000 in
theorem fcX9 : ∀ w ∈ wsX90, w ∈ z_F := z_inFs _ [88, 90] (by decide +kernel) (by decide +kernel)
theorem icX9 : Cond.initialized RX9 ∈ z_F := z_inF (i := 37) (by decide +kernel) rfl
set_option maxRecDepth 20000 in
theorem fcX10 : ∀ w ∈ wsX100, w ∈ z_F := z_inFs _ [72, 74] (by decide +kernel) (by decide +kernel)
theorem icX10 : Cond.initialized RX10 ∈ z_F := z_inF (i := 36) (by decide +kernel) rfl
set_option maxRecDepth 20000 in
theorem fcX11 : ∀ w ∈ wsX110, w ∈ z_F := z_inFs _ [312, 314, 316, 318, 320, 322, 324, 326, 328, 330, 332, 334, 336, 338, 340, 342, 344] (by decide +kernel) (by decide +kernel)
theorem icX11 : Cond.initialized RX11 ∈ z_F := z_inF (i := 35) (by decide +kernel) rfl
set_option maxRecDepth 20000 in
theorem fcX12 : ∀ w ∈ wsX120, w ∈ z_F := z_inFs _ [903, 905, 907, 909, 911, 913, 915, 917, 919, 921, 923, 925, 927, 929, 931, 933, 935, 937, 939, 941, 943, 945, 947, 949, 951, 953, 955, 957, 959, 961, 963, 965, 967, 969, 971, 973, 975, 977, 979, 981, 983, 985, 987, 989, 991, 993, 995, 997, 999, 1001, 1003, 1005, 1007, 1009, 1011, 1013, 1015, 1017, 1019, 1021, 1023, 1025, 1027, 1029, 1031, 1033, 1035, 1037, 1039] (by decide +kernel) (by decide +kernel)
theorem icX12 : Cond.initialized RX12 ∈ z_F := z_inF (i := 44) (by decide +kernel) rfl
theorem clL_7 : Cond.classLink RL 7 RX11 ∈ z_F := z_inF (i := 52) (by decide +kernel) rfl
theorem insX11 : Cond.instantiable RX11 17 ∈ z_F := z_inF (i := 53) (by decide +kernel) rfl
theorem mlL_9 : Cond.methodLink RL 9 yX11_init ∈ z_F := z_inF (i := 54) (by decide +kernel) rfl
theorem im_X11_init : Cond.instanceMethod yX11_init ∈ z_F := z_inF (i := 55) (by decide +kernel) rfl
theorem ym_X11_init : z_ym yX11_init cX11_init 1 none 0 := ⟨z_inF (i := 56) (by decide +kernel) rfl, z_inF (i := 35) (by decide +kernel) rfl, by decide +kernel, by decide +kernel, by decide +kernel, by decide +kernel, by decide⟩
theorem mlX11_3 : Cond.methodLink RX11 3 objectInit ∈ z_F := z_inF (i := 57) (by decide +kernel) rfl
theorem im_objectInit : Cond.instanceMethod objectInit ∈ z_F := z_inF (i := 58) (by decide +kernel) rfl
theorem co_objectInit : Cond.code objectInit ⟨#[0xb1]⟩ 1 none ∈ z_F := z_inF (i := 59) (by decide +kernel) rfl
theorem clX11_9 : Cond.classLink RX11 9 RX1 ∈ z_F := z_inF (i := 60) (by decide +kernel) rfl
theorem aoX1 : Cond.arrayOver (.object RX1) ∈ lw_tbl := List.mem_of_getElem? (i := 61) (by decide +kernel)
theorem clX11_15 : Cond.classLink RX11 15 RX10 ∈ z_F := z_inF (i := 62) (by decide +kernel) rfl
theorem insX10 : Cond.instantiable RX10 2 ∈ z_F := z_inF (i := 63) (by decide +kernel) rfl
theorem mnX11_17 : Cond.methodLinkNest RX11 17 yX10_init "BogForge" ∈ lw_tbl := List.mem_of_getElem? (i := 64) (by decide +kernel)
theorem im_X10_init : Cond.instanceMethod yX10_init ∈ z_F := z_inF (i := 65) (by decide +kernel) rfl
theorem ym_X10_init : z_ym yX10_init cX10_init 1 none 0 := ⟨z_inF (i := 66) (by decide +kernel) rfl, z_inF (i := 36) (by decide +kernel) rfl, by decide +kernel, by decide +kernel, by decide +kernel, by decide +kernel, by decide⟩
theorem mlX10_3 : Cond.methodLink RX10 3 objectInit ∈ z_F := z_inF (i := 67) (by decide +kernel) rfl
theorem flX10_9 : z_FL RX10 9 10 0 (.array .int) 1 := ⟨_, _, _, tyX10, rfl, fcX10, by decide, z_inF (i := 68) (by decide +kernel) rfl, tyX10_ok, nmX10, by decide +kernel, by decide +kernel, by decide +kernel⟩
theorem flX11_146 : z_FL RX11 146 10 0 (.array .int) 2 := ⟨_, _, _, tyX10, rfl, fcX10, by decide, z_inF (i := 69) (by decide +kernel) rfl, tyX10_ok, nmX10, by decide +kernel, by decide +kernel, by decide +kernel⟩
theorem flX10_15 : z_FL RX10 15 10 1 (.array .int) 1 := ⟨_, _, _, tyX10, rfl, fcX10, by decide, z_inF (i := 70) (by decide +kernel) rfl, tyX10_ok, nmX10, by decide +kernel, by decide +kernel, by decide +kernel⟩
theorem flX11_181 : z_FL RX11 181 10 1 (.array .int) 2 := ⟨_, _, _, tyX10, rfl, fcX10, by decide, z_inF (i := 71) (by decide +kernel) rfl, tyX10_ok, nmX10, by decide +kernel, by decide +kernel, by decide +kernel⟩
theorem ac_int : Cond.arrayClass .int ∈ lw_tbl := List.mem_of_getElem? (i := 77) (by decide +kernel)
theorem clX11_22 : Cond.classLink RX11 22 RX9 ∈ z_F := z_inF (i := 78) (by decide +kernel) rfl
theorem insX9 : Cond.instantiable RX9 2 ∈ z_F := z_inF (i := 79) (by decide +kernel) rfl
theorem mnX11_24 : Cond.methodLinkNest RX11 24 yX9_init "BogForge" ∈ lw_tbl := List.mem_of_getElem? (i := 80) (by decide +kernel)
theorem im_X9_init : Cond.instanceMethod yX9_init ∈ z_F := z_inF (i := 81) (by decide +kernel) rfl
theorem ym_X9_init : z_ym yX9_init cX9_init 1 none 0 := ⟨z_inF (i := 82) (by decide +kernel) rfl, z_inF (i := 37) (by decide +kernel) rfl, by decide +kernel, by decide +kernel, by decide +kernel, by decide +kernel, by decide⟩
theorem mlX9_3 : Cond.methodLink RX9 3 objectInit ∈ z_F := z_inF (i := 83) (by decide +kernel) rfl
theorem flX9_9 : z_FL RX9 9 9 0 (.array .int) 1 := ⟨_, _, _, tyX9, rfl, fcX9, by decide, z_inF (i := 84) (by decide +kernel) rfl, tyX9_ok, nmX9, by decide +kernel, by decide +kernel, by decide +kernel⟩
theorem flX2_28 : z_FL RX2 28 9 1 .int 0 := ⟨_, _, _, tyX9, rfl, fcX9, by decide, z_inF (i := 85) (by decide +kernel) rfl, tyX9_ok, nmX9, by decide +kernel, by decide +kernel, by decide +kernel⟩
theorem flX9_15 : z_FL RX9 15 9 1 .int 0 := ⟨_, _, _, tyX9, rfl, fcX9, by decide, z_inF (i := 86) (by decide +kernel) rfl, tyX9_ok, nmX9, by decide +kernel, by decide +kernel, by decide +kernel⟩
theorem flX11_156 : z_FL RX11 156 9 1 .int 0 := ⟨_, _, _, tyX9, rfl, fcX9, by decide, z_inF (i := 87) (by decide +kernel) rfl, tyX9_ok, nmX9, by decide +kernel, by decide +kernel, by decide +kernel⟩
theorem clX11_29 : Cond.classLink RX11 29 RX2 ∈ z_F := z_inF (i := 93) (by decide +kernel) rfl
theorem insX2 : Cond.instantiable RX2 5 ∈ z_F := z_inF (i := 94) (by decide +kernel) rfl
theorem mnX11_31 : Cond.methodLinkNest RX11 31 yX2_init "BogForge" ∈ lw_tbl := List.mem_of_getElem? (i := 95) (by decide +kernel)
theorem im_X2_init : Cond.instanceMethod yX2_init ∈ z_F := z_inF (i := 96) (by decide +kernel) rfl
theorem ym_X2_init : z_ym yX2_init cX2_init 1 none 0 := ⟨z_inF (i := 97) (by decide +kernel) rfl, z_inF (i := 38) (by decide +kernel) rfl, by decide +kernel, by decide +kernel, by decide +kernel, by decide +kernel, by decide⟩
theorem mlX2_3 : Cond.methodLink RX2 3 objectInit ∈ z_F := z_inF (i := 98) (by decide +kernel) rfl
theorem flX2_9 : z_FL RX2 9 2 0 (.array .int) 1 := ⟨_, _, _, tyX2, rfl, fcX2, by decide, z_inF (i := 99) (by decide +kernel) rfl, tyX2_ok, nmX2, by decide +kernel, by decide +kernel, by decide +kernel⟩
theorem flX2_15 : z_FL RX2 15 2 1 (.array .int) 1 := ⟨_, _, _, tyX2, rfl, fcX2, by decide, z_inF (i := 100) (by decide +kernel) rfl, tyX2_ok, nmX2, by decide +kernel, by decide +kernel, by decide +kernel⟩
theorem flX2_18 : z_FL RX2 18 2 2 (.array .int) 1 := ⟨_, _, _, tyX2, rfl, fcX2, by decide, z_inF (i := 101) (by decide +kernel) rfl, tyX2_ok, nmX2, by decide +kernel, by decide +kernel, by decide +kernel⟩
theorem flX2_21 : z_FL RX2 21 2 3 (.array .int) 1 := ⟨_, _, _, tyX2, rfl, fcX2, by decide, z_inF (i := 102) (by decide +kernel) rfl, tyX2_ok, nmX2, by decide +kernel, by decide +kernel, by decide +kernel⟩
theorem flX2_24 : z_FL RX2 24 2 4 .int 0 := ⟨_, _, _, tyX2, rfl, fcX2, by decide, z_inF (i := 103) (by decide +kernel) rfl, tyX2_ok, nmX2, by decide +kernel, by decide +kernel, by decide +kernel⟩
theorem clX11_36 : Cond.classLink RX11 36 RX3 ∈ z_F := z_inF (i := 115) (by decide +kernel) rfl
theorem insX3 : Cond.instantiable RX3 14 ∈ z_F := z_inF (i := 116) (by decide +kernel) rfl
theorem mnX11_38 : Cond.methodLinkNest RX11 38 yX3_init "BogForge" ∈ lw_tbl := List.mem_of_getElem? (i := 117) (by decide +kernel)
theorem im_X3_init : Cond.instanceMethod yX3_init ∈ z_F := z_inF (i := 118) (by decide +kernel) rfl
theorem ym_X3_init : z_ym yX3_init cX3_init 1 none 0 := ⟨z_inF (i := 119) (by decide +kernel) rfl, z_inF (i := 39) (by decide +kernel) rfl, by decide +kernel, by decide +kernel, by decide +kernel, by decide +kernel, by decide⟩
theorem mlX3_3 : Cond.methodLink RX3 3 objectInit ∈ z_F := z_inF (i := 120) (by decide +kernel) rfl
theorem flX3_9 : z_FL RX3 9 3 0 (.array .int) 1 := ⟨_, _, _, tyX3, rfl, fcX3, by decide, z_inF (i := 121) (by decide +kernel) rfl, tyX3_ok, nmX3, by decide +kernel, by decide +kernel, by decide +kernel⟩
theorem flX11_184 : z_FL RX11 184 3 0 (.array .int) 2 := ⟨_, _, _, tyX3, rfl, fcX3, by decide, z_inF (i := 122) (by decide +kernel) rfl, tyX3_ok, nmX3, by decide +kernel, by decide +kernel, by decide +kernel⟩
theorem flX3_15 : z_FL RX3 15 3 1 (.array .int) 1 := ⟨_, _, _, tyX3, rfl, fcX3, by decide, z_inF (i := 123) (by decide +kernel) rfl, tyX3_ok, nmX3, by decide +kernel, by decide +kernel, by decide +kernel⟩
theorem flX11_214 : z_FL RX11 214 3 1 (.array .int) 2 := ⟨_, _, _, tyX3, rfl, fcX3, by decide, z_inF (i := 124) (by decide +kernel) rfl, tyX3_ok, nmX3, by decide +kernel, by decide +kernel, by decide +kernel⟩
theorem flX3_18 : z_FL RX3 18 3 2 (.array .int) 1 := ⟨_, _, _, tyX3, rfl, fcX3, by decide, z_inF (i := 125) (by decide +kernel) rfl, tyX3_ok, nmX3, by decide +kernel, by decide +kernel, by decide +kernel⟩
theorem flX11_189 : z_FL RX11 189 3 2 (.array .int) 2 := ⟨_, _, _, tyX3, rfl, fcX3, by decide, z_inF (i := 126) (by decide +kernel) rfl, tyX3_ok, nmX3, by decide +kernel, by decide +kernel, by decide +kernel⟩
theorem flX3_31 : z_FL RX3 31 3 3 .int 0 := ⟨_, _, _, tyX3, rfl, fcX3, by decide, z_inF (i := 127) (by decide +kernel) rfl, tyX3_ok, nmX3, by decide +kernel, by decide +kernel, by decide +kernel⟩
theorem flX2_77 : z_FL RX2 77 3 3 .int 0 := ⟨_, _, _, tyX3, rfl, fcX3, by decide, z_inF (i := 128) (by decide +kernel) rfl, tyX3_ok, nmX3, by decide +kernel, by decide +kernel, by decide +kernel⟩
theorem flX11_192 : z_FL RX11 192 3 3 .int 0 := ⟨_, _, _, tyX3, rfl, fcX3, by decide, z_inF (i := 129) (by decide +kernel) rfl, tyX3_ok, nmX3, by decide +kernel, by decide +kernel, by decide +kernel⟩
theorem flX3_34 : z_FL RX3 34 3 4 .int 0 := ⟨_, _, _, tyX3, rfl, fcX3, by decide, z_inF (i := 130) (by decide +kernel) rfl, tyX3_ok, nmX3, by decide +kernel, by decide +kernel, by decide +kernel⟩
theorem flX2_74 : z_FL RX2 74 3 4 .int 0 := ⟨_, _, _, tyX3, rfl, fcX3, by decide, z_inF (i := 131) (by decide +kernel) rfl, tyX3_ok, nmX3, by decide +kernel, by decide +kernel, by decide +kernel⟩
theorem flX11_195 : z_FL RX11 195 3 4 .int 0 := ⟨_, _, _, tyX3, rfl, fcX3, by decide, z_inF (i := 132) (by decide +kernel) rfl, tyX3_ok, nmX3, by decide +kernel, by decide +kernel, by decide +kernel⟩
theorem flX3_65 : z_FL RX3 65 3 5 .int 0 := ⟨_, _, _, tyX3, rfl, fcX3, by decide, z_inF (i := 133) (by decide +kernel) rfl, tyX3_ok, nmX3, by decide +kernel, by decide +kernel, by decide +kernel⟩
theorem flX11_246 : z_FL RX11 246 3 5 .int 0 := ⟨_, _, _, tyX3, rfl, fcX3, by decide, z_inF (i := 134) (by decide +kernel) rfl, tyX3_ok, nmX3, by decide +kernel, by decide +kernel, by decide +kernel⟩
theorem flX3_44 : z_FL RX3 44 3 6 .int 0 := ⟨_, _, _, tyX3, rfl, fcX3, by decide, z_inF (i := 135) (by decide +kernel) rfl, tyX3_ok, nmX3, by decide +kernel, by decide +kernel, by decide +kernel⟩
theorem flX11_205 : z_FL RX11 205 3 6 .int 0 := ⟨_, _, _, tyX3, rfl, fcX3, by decide, z_inF (i := 136) (by decide +kernel) rfl, tyX3_ok, nmX3, by decide +kernel, by decide +kernel, by decide +kernel⟩
theorem flX3_41 : z_FL RX3 41 3 7 .int 0 := ⟨_, _, _, tyX3, rfl, fcX3, by decide, z_inF (i := 137) (by decide +kernel) rfl, tyX3_ok, nmX3, by decide +kernel, by decide +kernel, by decide +kernel⟩
theorem flX2_71 : z_FL RX2 71 3 7 .int 0 := ⟨_, _, _, tyX3, rfl, fcX3, by decide, z_inF (i := 138) (by decide +kernel) rfl, tyX3_ok, nmX3, by decide +kernel, by decide +kernel, by decide +kernel⟩
theorem flX11_198 : z_FL RX11 198 3 7 .int 0 := ⟨_, _, _, tyX3, rfl, fcX3, by decide, z_inF (i := 139) (by decide +kernel) rfl, tyX3_ok, nmX3, by decide +kernel, by decide +kernel, by decide +kernel⟩
theorem flX3_47 : z_FL RX3 47 3 8 .int 0 := ⟨_, _, _, tyX3, rfl, fcX3, by decide, z_inF (i := 140) (by decide +kernel) rfl, tyX3_ok, nmX3, by decide +kernel, by decide +kernel, by decide +kernel⟩
theorem flX2_68 : z_FL RX2 68 3 8 .int 0 := ⟨_, _, _, tyX3, rfl, fcX3, by decide, z_inF (i := 141) (by decide +kernel) rfl, tyX3_ok, nmX3, by decide +kernel, by decide +kernel, by decide +kernel⟩
theorem flX11_208 : z_FL RX11 208 3 8 .int 0 := ⟨_, _, _, tyX3, rfl, fcX3, by decide, z_inF (i := 142) (by decide +kernel) rfl, tyX3_ok, nmX3, by decide +kernel, by decide +kernel, by decide +kernel⟩
theorem flX3_56 : z_FL RX3 56 3 9 .int 0 := ⟨_, _, _, tyX3, rfl, fcX3, by decide, z_inF (i := 143) (by decide +kernel) rfl, tyX3_ok, nmX3, by decide +kernel, by decide +kernel, by decide +kernel⟩
theorem flX2_63 : z_FL RX2 63 3 9 .int 0 := ⟨_, _, _, tyX3, rfl, fcX3, by decide, z_inF (i := 144) (by decide +kernel) rfl, tyX3_ok, nmX3, by decide +kernel, by decide +kernel, by decide +kernel⟩
theorem flX11_211 : z_FL RX11 211 3 9 .int 0 := ⟨_, _, _, tyX3, rfl, fcX3, by decide, z_inF (i := 145) (by decide +kernel) rfl, tyX3_ok, nmX3, by decide +kernel, by decide +kernel, by decide +kernel⟩
theorem flX3_84 : z_FL RX3 84 3 10 .int 0 := ⟨_, _, _, tyX3, rfl, fcX3, by decide, z_inF (i := 146) (by decide +kernel) rfl, tyX3_ok, nmX3, by decide +kernel, by decide +kernel, by decide +kernel⟩
theorem flX11_217 : z_FL RX11 217 3 10 .int 0 := ⟨_, _, _, tyX3, rfl, fcX3, by decide, z_inF (i := 147) (by decide +kernel) rfl, tyX3_ok, nmX3, by decide +kernel, by decide +kernel, by decide +kernel⟩
theorem flX3_21 : z_FL RX3 21 3 11 .int 0 := ⟨_, _, _, tyX3, rfl, fcX3, by decide, z_inF (i := 148) (by decide +kernel) rfl, tyX3_ok, nmX3, by decide +kernel, by decide +kernel, by decide +kernel⟩
theorem flX11_220 : z_FL RX11 220 3 11 .int 0 := ⟨_, _, _, tyX3, rfl, fcX3, by decide, z_inF (i := 149) (by decide +kernel) rfl, tyX3_ok, nmX3, by decide +kernel, by decide +kernel, by decide +kernel⟩
theorem flX3_25 : z_FL RX3 25 3 12 .int 0 := ⟨_, _, _, tyX3, rfl, fcX3, by decide, z_inF (i := 150) (by decide +kernel) rfl, tyX3_ok, nmX3, by decide +kernel, by decide +kernel, by decide +kernel⟩
theorem flX11_171 : z_FL RX11 171 3 12 .int 0 := ⟨_, _, _, tyX3, rfl, fcX3, by decide, z_inF (i := 151) (by decide +kernel) rfl, tyX3_ok, nmX3, by decide +kernel, by decide +kernel, by decide +kernel⟩
theorem flX3_28 : z_FL RX3 28 3 13 .int 0 := ⟨_, _, _, tyX3, rfl, fcX3, by decide, z_inF (i := 152) (by decide +kernel) rfl, tyX3_ok, nmX3, by decide +kernel, by decide +kernel, by decide +kernel⟩
theorem flX11_174 : z_FL RX11 174 3 13 .int 0 := ⟨_, _, _, tyX3, rfl, fcX3, by decide, z_inF (i := 153) (by decide +kernel) rfl, tyX3_ok, nmX3, by decide +kernel, by decide +kernel, by decide +kernel⟩
theorem clX11_43 : Cond.classLink RX11 43 RX0 ∈ z_F := z_inF (i := 183) (by decide +kernel) rfl
theorem aoX0 : Cond.arrayOver (.object RX0) ∈ lw_tbl := List.mem_of_getElem? (i := 184) (by decide +kernel)
theorem clX11_49 : Cond.classLink RX11 49 RX8 ∈ z_F := z_inF (i := 185) (by decide +kernel) rfl
theorem insX8 : Cond.instantiable RX8 5 ∈ z_F := z_inF (i := 186) (by decide +kernel) rfl
theorem mnX11_51 : Cond.methodLinkNest RX11 51 yX8_init "BogForge" ∈ lw_tbl := List.mem_of_getElem? (i := 187) (by decide +kernel)
theorem im_X8_init : Cond.instanceMethod yX8_init ∈ z_F := z_inF (i := 188) (by decide +kernel) rfl
theorem ym_X8_init : z_ym yX8_init cX8_init 1 none 0 := ⟨z_inF (i := 189) (by decide +kernel) rfl, z_inF (i := 40) (by decide +kernel) rfl, by decide +kernel, by decide +kernel, by decide +kernel, by decide +kernel, by decide⟩
theorem mlX8_3 : Cond.methodLink RX8 3 objectInit ∈ z_F := z_inF (i := 190) (by decide +kernel) rfl
theorem flX8_9 : z_FL RX8 9 8 0 (.array .int) 1 := ⟨_, _, _, tyX8, rfl, fcX8, by decide, z_inF (i := 191) (by decide +kernel) rfl, tyX8_ok, nmX8, by decide +kernel, by decide +kernel, by decide +kernel⟩
theorem flX8_15 : z_FL RX8 15 8 1 (.array .int) 1 := ⟨_, _, _, tyX8, rfl, fcX8, by decide, z_inF (i := 192) (by decide +kernel) rfl, tyX8_ok, nmX8, by decide +kernel, by decide +kernel, by decide +kernel⟩
theorem flX8_18 : z_FL RX8 18 8 2 (.array .int) 1 := ⟨_, _, _, tyX8, rfl, fcX8, by decide, z_inF (i := 193) (by decide +kernel) rfl, tyX8_ok, nmX8, by decide +kernel, by decide +kernel, by decide +kernel⟩
theorem flX8_21 : z_FL RX8 21 8 3 (.array .int) 1 := ⟨_, _, _, tyX8, rfl, fcX8, by decide, z_inF (i := 194) (by decide +kernel) rfl, tyX8_ok, nmX8, by decide +kernel, by decide +kernel, by decide +kernel⟩
theorem flX8_24 : z_FL RX8 24 8 4 .int 0 := ⟨_, _, _, tyX8, rfl, fcX8, by decide, z_inF (i := 195) (by decide +kernel) rfl, tyX8_ok, nmX8, by decide +kernel, by decide +kernel, by decide +kernel⟩
theorem clX11_56 : Cond.classLink RX11 56 RX7 ∈ z_F := z_inF (i := 207) (by decide +kernel) rfl
theorem aoX7 : Cond.arrayOver (.object RX7) ∈ lw_tbl := List.mem_of_getElem? (i := 208) (by decide +kernel)
theorem clX11_62 : Cond.classLink RX11 62 RX4 ∈ z_F := z_inF (i := 209) (by decide +kernel) rfl
theorem insX4 : Cond.instantiable RX4 6 ∈ z_F := z_inF (i := 210) (by decide +kernel) rfl
theorem mnX11_64 : Cond.methodLinkNest RX11 64 yX4_init "BogForge" ∈ lw_tbl := List.mem_of_getElem? (i := 211) (by decide +kernel)
theorem im_X4_init : Cond.instanceMethod yX4_init ∈ z_F := z_inF (i := 212) (by decide +kernel) rfl
theorem ym_X4_init : z_ym yX4_init cX4_init 1 none 0 := ⟨z_inF (i := 213) (by decide +kernel) rfl, z_inF (i := 41) (by decide +kernel) rfl, by decide +kernel, by decide +kernel, by decide +kernel, by decide +kernel, by decide⟩
theorem mlX4_3 : Cond.methodLink RX4 3 objectInit ∈ z_F := z_inF (i := 214) (by decide +kernel) rfl
theorem flX4_9 : z_FL RX4 9 4 0 (.array .int) 0 := ⟨_, _, _, tyX4, rfl, fcX4, by decide, z_inF (i := 215) (by decide +kernel) rfl, tyX4_ok, nmX4, by decide +kernel, by decide +kernel, by decide +kernel⟩
theorem flX11_298 : z_FL RX11 298 4 0 (.array .int) 0 := ⟨_, _, _, tyX4, rfl, fcX4, by decide, z_inF (i := 216) (by decide +kernel) rfl, tyX4_ok, nmX4, by decide +kernel, by decide +kernel, by decide +kernel⟩
theorem flX4_15 : z_FL RX4 15 4 1 (.array .int) 0 := ⟨_, _, _, tyX4, rfl, fcX4, by decide, z_inF (i := 217) (by decide +kernel) rfl, tyX4_ok, nmX4, by decide +kernel, by decide +kernel, by decide +kernel⟩
theorem flX11_301 : z_FL RX11 301 4 1 (.array .int) 0 := ⟨_, _, _, tyX4, rfl, fcX4, by decide, z_inF (i := 218) (by decide +kernel) rfl, tyX4_ok, nmX4, by decide +kernel, by decide +kernel, by decide +kernel⟩
theorem flX4_18 : z_FL RX4 18 4 2 (.array .int) 0 := ⟨_, _, _, tyX4, rfl, fcX4, by decide, z_inF (i := 219) (by decide +kernel) rfl, tyX4_ok, nmX4, by decide +kernel, by decide +kernel, by decide +kernel⟩
theorem flX11_304 : z_FL RX11 304 4 2 (.array .int) 0 := ⟨_, _, _, tyX4, rfl, fcX4, by decide, z_inF (i := 220) (by decide +kernel) rfl, tyX4_ok, nmX4, by decide +kernel, by decide +kernel, by decide +kernel⟩
theorem flX4_21 : z_FL RX4 21 4 3 (.array .int) 0 := ⟨_, _, _, tyX4, rfl, fcX4, by decide, z_inF (i := 221) (by decide +kernel) rfl, tyX4_ok, nmX4, by decide +kernel, by decide +kernel, by decide +kernel⟩
theorem flX11_307 : z_FL RX11 307 4 3 (.array .int) 0 := ⟨_, _, _, tyX4, rfl, fcX4, by decide, z_inF (i := 222) (by decide +kernel) rfl, tyX4_ok, nmX4, by decide +kernel, by decide +kernel, by decide +kernel⟩
theorem flX4_24 : z_FL RX4 24 4 4 (.array .int) 1 := ⟨_, _, _, tyX4, rfl, fcX4, by decide, z_inF (i := 223) (by decide +kernel) rfl, tyX4_ok, nmX4, by decide +kernel, by decide +kernel, by decide +kernel⟩
theorem flX11_310 : z_FL RX11 310 4 4 (.array .int) 2 := ⟨_, _, _, tyX4, rfl, fcX4, by decide, z_inF (i := 224) (by decide +kernel) rfl, tyX4_ok, nmX4, by decide +kernel, by decide +kernel, by decide +kernel⟩
theorem flX4_27 : z_FL RX4 27 4 5 .int 0 := ⟨_, _, _, tyX4, rfl, fcX4, by decide, z_inF (i := 225) (by decide +kernel) rfl, tyX4_ok, nmX4, by decide +kernel, by decide +kernel, by decide +kernel⟩
theorem flX11_295 : z_FL RX11 295 4 5 .int 0 := ⟨_, _, _, tyX4, rfl, fcX4, by decide, z_inF (i := 226) (by decide +kernel) rfl, tyX4_ok, nmX4, by decide +kernel, by decide +kernel, by decide +kernel⟩
theorem clX11_69 : Cond.classLink RX11 69 RX5 ∈ z_F := z_inF (i := 240) (by decide +kernel) rfl
theorem insX5 : Cond.instantiable RX5 10 ∈ z_F := z_inF (i := 241) (by decide +kernel) rfl
theorem mnX11_71 : Cond.methodLinkNest RX11 71 yX5_init "BogForge" ∈ lw_tbl := List.mem_of_getElem? (i := 242) (by decide +kernel)
theorem im_X5_init : Cond.instanceMethod yX5_init ∈ z_F := z_inF (i := 243) (by decide +kernel) rfl
theorem ym_X5_init : z_ym yX5_init cX5_init 1 none 0 := ⟨z_inF (i := 244) (by decide +kernel) rfl, z_inF (i := 42) (by decide +kernel) rfl, by decide +kernel, by decide +kernel, by decide +kernel, by decide +kernel, by decide⟩
theorem mlX5_3 : Cond.methodLink RX5 3 objectInit ∈ z_F := z_inF (i := 245) (by decide +kernel) rfl
theorem flX5_9 : z_FL RX5 9 5 0 (.array .int) 1 := ⟨_, _, _, tyX5, rfl, fcX5, by decide, z_inF (i := 246) (by decide +kernel) rfl, tyX5_ok, nmX5, by decide +kernel, by decide +kernel, by decide +kernel⟩
theorem flX5_15 : z_FL RX5 15 5 1 (.array .int) 1 := ⟨_, _, _, tyX5, rfl, fcX5, by decide, z_inF (i := 247) (by decide +kernel) rfl, tyX5_ok, nmX5, by decide +kernel, by decide +kernel, by decide +kernel⟩
theorem flX5_18 : z_FL RX5 18 5 2 (.array .int) 1 := ⟨_, _, _, tyX5, rfl, fcX5, by decide, z_inF (i := 248) (by decide +kernel) rfl, tyX5_ok, nmX5, by decide +kernel, by decide +kernel, by decide +kernel⟩
theorem flX11_349 : z_FL RX11 349 5 2 (.array .int) 2 := ⟨_, _, _, tyX5, rfl, fcX5, by decide, z_inF (i := 249) (by decide +kernel) rfl, tyX5_ok, nmX5, by decide +kernel, by decide +kernel, by decide +kernel⟩
theorem flX5_37 : z_FL RX5 37 5 3 .int 0 := ⟨_, _, _, tyX5, rfl, fcX5, by decide, z_inF (i := 250) (by decide +kernel) rfl, tyX5_ok, nmX5, by decide +kernel, by decide +kernel, by decide +kernel⟩
theorem flX11_344 : z_FL RX11 344 5 3 .int 0 := ⟨_, _, _, tyX5, rfl, fcX5, by decide, z_inF (i := 251) (by decide +kernel) rfl, tyX5_ok, nmX5, by decide +kernel, by decide +kernel, by decide +kernel⟩
theorem flX5_21 : z_FL RX5 21 5 4 (.array .int) 1 := ⟨_, _, _, tyX5, rfl, fcX5, by decide, z_inF (i := 252) (by decide +kernel) rfl, tyX5_ok, nmX5, by decide +kernel, by decide +kernel, by decide +kernel⟩
theorem flX5_24 : z_FL RX5 24 5 5 (.array .int) 1 := ⟨_, _, _, tyX5, rfl, fcX5, by decide, z_inF (i := 253) (by decide +kernel) rfl, tyX5_ok, nmX5, by decide +kernel, by decide +kernel, by decide +kernel⟩
theorem flX5_27 : z_FL RX5 27 5 6 (.array .boolean) 1 := ⟨_, _, _, tyX5, rfl, fcX5, by decide, z_inF (i := 254) (by decide +kernel) rfl, tyX5_ok, nmX5, by decide +kernel, by decide +kernel, by decide +kernel⟩
theorem flX5_31 : z_FL RX5 31 5 7 (.array .int) 1 := ⟨_, _, _, tyX5, rfl, fcX5, by decide, z_inF (i := 255) (by decide +kernel) rfl, tyX5_ok, nmX5, by decide +kernel, by decide +kernel, by decide +kernel⟩
theorem flX5_34 : z_FL RX5 34 5 8 (.array .int) 1 := ⟨_, _, _, tyX5, rfl, fcX5, by decide, z_inF (i := 256) (by decide +kernel) rfl, tyX5_ok, nmX5, by decide +kernel, by decide +kernel, by decide +kernel⟩
theorem flX5_47 : z_FL RX5 47 5 9 .int 0 := ⟨_, _, _, tyX5, rfl, fcX5, by decide, z_inF (i := 257) (by decide +kernel) rfl, tyX5_ok, nmX5, by decide +kernel, by decide +kernel, by decide +kernel⟩
theorem ac_boolean : Cond.arrayClass .boolean ∈ lw_tbl := List.mem_of_getElem? (i := 279) (by decide +kernel)
theorem clX11_76 : Cond.classLink RX11 76 RX6 ∈ z_F := z_inF (i := 280) (by decide +kernel) rfl
theorem insX6 : Cond.instantiable RX6 2 ∈ z_F := z_inF (i := 281) (by decide +kernel) rfl
theorem mnX11_78 : Cond.methodLinkNest RX11 78 yX6_init "BogForge" ∈ lw_tbl := List.mem_of_getElem? (i := 282) (by decide +kernel)
theorem im_X6_init : Cond.instanceMethod yX6_init ∈ z_F := z_inF (i := 283) (by decide +kernel) rfl
theorem ym_X6_init : z_ym yX6_init cX6_init 1 none 0 := ⟨z_inF (i := 284) (by decide +kernel) rfl, z_inF (i := 43) (by decide +kernel) rfl, by decide +kernel, by decide +kernel, by decide +kernel, by decide +kernel, by decide⟩
theorem mlX6_3 : Cond.methodLink RX6 3 objectInit ∈ z_F := z_inF (i := 285) (by decide +kernel) rfl
theorem flX6_9 : z_FL RX6 9 6 0 (.array .int) 1 := ⟨_, _, _, tyX6, rfl, fcX6, by decide, z_inF (i := 286) (by decide +kernel) rfl, tyX6_ok, nmX6, by decide +kernel, by decide +kernel, by decide +kernel⟩
theorem flX11_333 : z_FL RX11 333 6 0 (.array .int) 2 := ⟨_, _, _, tyX6, rfl, fcX6, by decide, z_inF (i := 287) (by decide +kernel) rfl, tyX6_ok, nmX6, by decide +kernel, by decide +kernel, by decide +kernel⟩
theorem flX6_15 : z_FL RX6 15 6 1 (.array .long) 1 := ⟨_, _, _, tyX6, rfl, fcX6, by decide, z_inF (i := 288) (by decide +kernel) rfl, tyX6_ok, nmX6, by decide +kernel, by decide +kernel, by decide +kernel⟩
theorem ac_long : Cond.arrayClass .long ∈ lw_tbl := List.mem_of_getElem? (i := 294) (by decide +kernel)
theorem flX11_110 : z_FL RX11 110 11 0 .int 0 := ⟨_, _, _, tyX11, rfl, fcX11, by decide, z_inF (i := 295) (by decide +kernel) rfl, tyX11_ok, nmX11, by decide +kernel, by decide +kernel, by decide +kernel⟩
theorem flX11_11 : z_FL RX11 11 11 1 (.array (.object "BogForge$Bog")) 1 := ⟨_, _, _, tyX11, rfl, fcX11, by decide, z_inF (i := 296) (by decide +kernel) rfl, tyX11_ok, nmX11, by decide +kernel, by decide +kernel, by decide +kernel⟩
theorem flX11_87 : z_FL RX11 87 11 2 .int 0 := ⟨_, _, _, tyX11, rfl, fcX11, by decide, z_inF (i := 297) (by decide +kernel) rfl, tyX11_ok, nmX11, by decide +kernel, by decide +kernel, by decide +kernel⟩
theorem flX11_18 : z_FL RX11 18 11 3 (.object "BogForge$Yard") 1 := ⟨_, _, _, tyX11, rfl, fcX11, by decide, z_inF (i := 298) (by decide +kernel) rfl, tyX11_ok, nmX11, by decide +kernel, by decide +kernel, by decide +kernel⟩
theorem flX11_25 : z_FL RX11 25 11 4 (.object "BogForge$Tape") 1 := ⟨_, _, _, tyX11, rfl, fcX11, by decide, z_inF (i := 299) (by decide +kernel) rfl, tyX11_ok, nmX11, by decide +kernel, by decide +kernel, by decide +kernel⟩
theorem flX11_32 : z_FL RX11 32 11 5 (.object "BogForge$Founder") 1 := ⟨_, _, _, tyX11, rfl, fcX11, by decide, z_inF (i := 300) (by decide +kernel) rfl, tyX11_ok, nmX11, by decide +kernel, by decide +kernel, by decide +kernel⟩
theorem flX11_39 : z_FL RX11 39 11 6 (.object "BogForge$Hearth") 1 := ⟨_, _, _, tyX11, rfl, fcX11, by decide, z_inF (i := 301) (by decide +kernel) rfl, tyX11_ok, nmX11, by decide +kernel, by decide +kernel, by decide +kernel⟩
theorem flX11_45 : z_FL RX11 45 11 7 (.array (.object "BogForge$Bar")) 1 := ⟨_, _, _, tyX11, rfl, fcX11, by decide, z_inF (i := 302) (by decide +kernel) rfl, tyX11_ok, nmX11, by decide +kernel, by decide +kernel, by decide +kernel⟩
theorem flX11_223 : z_FL RX11 223 11 8 .int 0 := ⟨_, _, _, tyX11, rfl, fcX11, by decide, z_inF (i := 303) (by decide +kernel) rfl, tyX11_ok, nmX11, by decide +kernel, by decide +kernel, by decide +kernel⟩
theorem flX11_250 : z_FL RX11 250 11 9 .int 0 := ⟨_, _, _, tyX11, rfl, fcX11, by decide, z_inF (i := 304) (by decide +kernel) rfl, tyX11_ok, nmX11, by decide +kernel, by decide +kernel, by decide +kernel⟩
theorem flX11_52 : z_FL RX11 52 11 10 (.object "BogForge$Rights") 1 := ⟨_, _, _, tyX11, rfl, fcX11, by decide, z_inF (i := 305) (by decide +kernel) rfl, tyX11_ok, nmX11, by decide +kernel, by decide +kernel, by decide +kernel⟩
theorem flX11_58 : z_FL RX11 58 11 11 (.array (.object "BogForge$Pay")) 1 := ⟨_, _, _, tyX11, rfl, fcX11, by decide, z_inF (i := 306) (by decide +kernel) rfl, tyX11_ok, nmX11, by decide +kernel, by decide +kernel, by decide +kernel⟩
theorem flX11_285 : z_FL RX11 285 11 12 .int 0 := ⟨_, _, _, tyX11, rfl, fcX11, by decide, z_inF (i := 307) (by decide +kernel) rfl, tyX11_ok, nmX11, by decide +kernel, by decide +kernel, by decide +kernel⟩
theorem flX11_65 : z_FL RX11 65 11 13 (.object "BogForge$Ledger") 1 := ⟨_, _, _, tyX11, rfl, fcX11, by decide, z_inF (i := 308) (by decide +kernel) rfl, tyX11_ok, nmX11, by decide +kernel, by decide +kernel, by decide +kernel⟩
theorem flX11_72 : z_FL RX11 72 11 14 (.object "BogForge$Orders") 1 := ⟨_, _, _, tyX11, rfl, fcX11, by decide, z_inF (i := 309) (by decide +kernel) rfl, tyX11_ok, nmX11, by decide +kernel, by decide +kernel, by decide +kernel⟩
theorem flX11_79 : z_FL RX11 79 11 15 (.object "BogForge$Parting") 1 := ⟨_, _, _, tyX11, rfl, fcX11, by decide, z_inF (i := 310) (by decide +kernel) rfl, tyX11_ok, nmX11, by decide +kernel, by decide +kernel, by decide +kernel⟩
theorem flX11_83 : z_FL RX11 83 11 16 (.array .int) 1 := ⟨_, _, _, tyX11, rfl, fcX11, by decide, z_inF (i := 311) (by decide +kernel) rfl, tyX11_ok, nmX11, by decide +kernel, by decide +kernel, by decide +kernel⟩
theorem mlL_13 : Cond.methodLink RL 13 yX11_bog ∈ z_F := z_inF (i := 347) (by decide +kernel) rfl
theorem im_X11_bog : Cond.instanceMethod yX11_bog ∈ z_F := z_inF (i := 348) (by decide +kernel) rfl
theorem se_X11_bog : Cond.selects RX11 yX11_bog yX11_bog ∈ z_F := z_inF (i := 349) (by decide +kernel) rfl
theorem ym_X11_bog : z_ym yX11_bog cX11_bog 4 (some .int) 3 := ⟨z_inF (i := 350) (by decide +kernel) rfl, z_inF (i := 35) (by decide +kernel) rfl, by decide +kernel, by decide +kernel, by decide +kernel, by decide +kernel, by decide⟩
theorem kcX11_91 : Cond.constant RX11 91 (100000) ∈ lw_tbl := List.mem_of_getElem? (i := 351) (by decide +kernel)
theorem mlX11_92 : Cond.methodLink RX11 92 yX11_within ∈ z_F := z_inF (i := 352) (by decide +kernel) rfl
theorem sm_X11_within : Cond.static yX11_within ∈ z_F := z_inF (i := 353) (by decide +kernel) rfl
theorem ym_X11_within : z_ym yX11_within cX11_within 3 (some .boolean) 3 := ⟨z_inF (i := 354) (by decide +kernel) rfl, z_inF (i := 35) (by decide +kernel) rfl, by decide +kernel, by decide +kernel, by decide +kernel, by decide +kernel, by decide⟩
theorem insX1 : Cond.instantiable RX1 6 ∈ z_F := z_inF (i := 355) (by decide +kernel) rfl
theorem mlX11_96 : Cond.methodLink RX11 96 yX1_init ∈ z_F := z_inF (i := 356) (by decide +kernel) rfl
theorem im_X1_init : Cond.instanceMethod yX1_init ∈ z_F := z_inF (i := 357) (by decide +kernel) rfl
theorem ym_X1_init : z_ym yX1_init cX1_init 4 none 3 := ⟨z_inF (i := 358) (by decide +kernel) rfl, z_inF (i := 45) (by decide +kernel) rfl, by decide +kernel, by decide +kernel, by decide +kernel, by decide +kernel, by decide⟩
theorem mlX1_3 : Cond.methodLink RX1 3 objectInit ∈ z_F := z_inF (i := 359) (by decide +kernel) rfl
theorem flX1_18 : z_FL RX1 18 1 0 .int 0 := ⟨_, _, _, tyX1, rfl, fcX1, by decide, z_inF (i := 360) (by decide +kernel) rfl, tyX1_ok, nmX1, by decide +kernel, by decide +kernel, by decide +kernel⟩
theorem flX11_107 : z_FL RX11 107 1 0 .int 0 := ⟨_, _, _, tyX1, rfl, fcX1, by decide, z_inF (i := 361) (by decide +kernel) rfl, tyX1_ok, nmX1, by decide +kernel, by decide +kernel, by decide +kernel⟩
theorem flX1_21 : z_FL RX1 21 1 1 .int 1 := ⟨_, _, _, tyX1, rfl, fcX1, by decide, z_inF (i := 362) (by decide +kernel) rfl, tyX1_ok, nmX1, by decide +kernel, by decide +kernel, by decide +kernel⟩
theorem flX11_134 : z_FL RX11 134 1 1 .int 2 := ⟨_, _, _, tyX1, rfl, fcX1, by decide, z_inF (i := 363) (by decide +kernel) rfl, tyX1_ok, nmX1, by decide +kernel, by decide +kernel, by decide +kernel⟩
theorem flX1_24 : z_FL RX1 24 1 2 .int 1 := ⟨_, _, _, tyX1, rfl, fcX1, by decide, z_inF (i := 364) (by decide +kernel) rfl, tyX1_ok, nmX1, by decide +kernel, by decide +kernel, by decide +kernel⟩
theorem flX11_137 : z_FL RX11 137 1 2 .int 2 := ⟨_, _, _, tyX1, rfl, fcX1, by decide, z_inF (i := 365) (by decide +kernel) rfl, tyX1_ok, nmX1, by decide +kernel, by decide +kernel, by decide +kernel⟩
theorem flX1_27 : z_FL RX1 27 1 3 .int 0 := ⟨_, _, _, tyX1, rfl, fcX1, by decide, z_inF (i := 366) (by decide +kernel) rfl, tyX1_ok, nmX1, by decide +kernel, by decide +kernel, by decide +kernel⟩
theorem flX11_140 : z_FL RX11 140 1 3 .int 0 := ⟨_, _, _, tyX1, rfl, fcX1, by decide, z_inF (i := 367) (by decide +kernel) rfl, tyX1_ok, nmX1, by decide +kernel, by decide +kernel, by decide +kernel⟩
theorem flX1_9 : z_FL RX1 9 1 4 .int 0 := ⟨_, _, _, tyX1, rfl, fcX1, by decide, z_inF (i := 368) (by decide +kernel) rfl, tyX1_ok, nmX1, by decide +kernel, by decide +kernel, by decide +kernel⟩
theorem flX11_143 : z_FL RX11 143 1 4 .int 0 := ⟨_, _, _, tyX1, rfl, fcX1, by decide, z_inF (i := 369) (by decide +kernel) rfl, tyX1_ok, nmX1, by decide +kernel, by decide +kernel, by decide +kernel⟩
theorem flX1_15 : z_FL RX1 15 1 5 .int 0 := ⟨_, _, _, tyX1, rfl, fcX1, by decide, z_inF (i := 370) (by decide +kernel) rfl, tyX1_ok, nmX1, by decide +kernel, by decide +kernel, by decide +kernel⟩
theorem flX11_117 : z_FL RX11 117 1 5 .int 0 := ⟨_, _, _, tyX1, rfl, fcX1, by decide, z_inF (i := 371) (by decide +kernel) rfl, tyX1_ok, nmX1, by decide +kernel, by decide +kernel, by decide +kernel⟩
theorem mlL_18 : Cond.methodLink RL 18 yX11_test ∈ z_F := z_inF (i := 385) (by decide +kernel) rfl
theorem im_X11_test : Cond.instanceMethod yX11_test ∈ z_F := z_inF (i := 386) (by decide +kernel) rfl
theorem se_X11_test : Cond.selects RX11 yX11_test yX11_test ∈ z_F := z_inF (i := 387) (by decide +kernel) rfl
theorem ym_X11_test : z_ym yX11_test cX11_test 5 (some .boolean) 3 := ⟨z_inF (i := 388) (by decide +kernel) rfl, z_inF (i := 35) (by decide +kernel) rfl, by decide +kernel, by decide +kernel, by decide +kernel, by decide +kernel, by decide⟩
theorem mlX11_99 : Cond.methodLink RX11 99 yX11_bogAt ∈ z_F := z_inF (i := 389) (by decide +kernel) rfl
theorem im_X11_bogAt : Cond.instanceMethod yX11_bogAt ∈ z_F := z_inF (i := 391) (by decide +kernel) rfl
theorem ym_X11_bogAt : z_ym yX11_bogAt cX11_bogAt 2 (some (.object "BogForge$Bog")) 1 := ⟨z_inF (i := 392) (by decide +kernel) rfl, z_inF (i := 35) (by decide +kernel) rfl, by decide +kernel, by decide +kernel, by decide +kernel, by decide +kernel, by decide⟩
theorem mlX11_103 : Cond.methodLink RX11 103 yX1_narrow ∈ z_F := z_inF (i := 393) (by decide +kernel) rfl
theorem im_X1_narrow : Cond.instanceMethod yX1_narrow ∈ z_F := z_inF (i := 394) (by decide +kernel) rfl
theorem se_X1_narrow : Cond.selects RX1 yX1_narrow yX1_narrow ∈ z_F := z_inF (i := 395) (by decide +kernel) rfl
theorem ym_X1_narrow : z_ym yX1_narrow cX1_narrow 3 (some .boolean) 2 := ⟨z_inF (i := 396) (by decide +kernel) rfl, z_inF (i := 45) (by decide +kernel) rfl, by decide +kernel, by decide +kernel, by decide +kernel, by decide +kernel, by decide⟩
theorem mlX1_30 : Cond.methodLink RX1 30 Lib.Math.max.name ∈ z_F := z_inF (i := 397) (by decide +kernel) rfl
theorem sm_Mmax : Cond.static Lib.Math.max.name ∈ z_F := z_inF (i := 398) (by decide +kernel) rfl
theorem co_Mmax : Cond.code Lib.Math.max.name Lib.Math.max.code 2 (some .int) ∈ z_F := z_inF (i := 399) (by decide +kernel) rfl
theorem mlX1_36 : Cond.methodLink RX1 36 Lib.Math.min.name ∈ z_F := z_inF (i := 400) (by decide +kernel) rfl
theorem sm_Mmin : Cond.static Lib.Math.min.name ∈ z_F := z_inF (i := 401) (by decide +kernel) rfl
theorem co_Mmin : Cond.code Lib.Math.min.name Lib.Math.min.code 2 (some .int) ∈ z_F := z_inF (i := 402) (by decide +kernel) rfl
theorem mlL_23 : Cond.methodLink RL 23 yX11_dig ∈ z_F := z_inF (i := 403) (by decide +kernel) rfl
theorem im_X11_dig : Cond.instanceMethod yX11_dig ∈ z_F := z_inF (i := 404) (by decide +kernel) rfl
theorem se_X11_dig : Cond.selects RX11 yX11_dig yX11_dig ∈ z_F := z_inF (i := 405) (by decide +kernel) rfl
theorem ym_X11_dig : z_ym yX11_dig cX11_dig 4 (some .int) 2 := ⟨z_inF (i := 406) (by decide +kernel) rfl, z_inF (i := 35) (by decide +kernel) rfl, by decide +kernel, by decide +kernel, by decide +kernel, by decide +kernel, by decide⟩
theorem mlX11_113 : Cond.methodLink RX11 113 yX1_restsIn ∈ z_F := z_inF (i := 407) (by decide +kernel) rfl
theorem im_X1_restsIn : Cond.instanceMethod yX1_restsIn ∈ z_F := z_inF (i := 408) (by decide +kernel) rfl
theorem se_X1_restsIn : Cond.selects RX1 yX1_restsIn yX1_restsIn ∈ z_F := z_inF (i := 409) (by decide +kernel) rfl
theorem ym_X1_restsIn : z_ym yX1_restsIn cX1_restsIn 2 (some .boolean) 1 := ⟨z_inF (i := 410) (by decide +kernel) rfl, z_inF (i := 45) (by decide +kernel) rfl, by decide +kernel, by decide +kernel, by decide +kernel, by decide +kernel, by decide⟩
theorem mlX11_120 : Cond.methodLink RX11 120 yX10_addOre ∈ z_F := z_inF (i := 411) (by decide +kernel) rfl
theorem im_X10_addOre : Cond.instanceMethod yX10_addOre ∈ z_F := z_inF (i := 412) (by decide +kernel) rfl
theorem se_X10_addOre : Cond.selects RX10 yX10_addOre yX10_addOre ∈ z_F := z_inF (i := 413) (by decide +kernel) rfl
theorem ym_X10_addOre : z_ym yX10_addOre cX10_addOre 3 (some .int) 2 := ⟨z_inF (i := 414) (by decide +kernel) rfl, z_inF (i := 36) (by decide +kernel) rfl, by decide +kernel, by decide +kernel, by decide +kernel, by decide +kernel, by decide⟩
theorem mlL_28 : Cond.methodLink RL 28 yX11_coal ∈ z_F := z_inF (i := 415) (by decide +kernel) rfl
theorem im_X11_coal : Cond.instanceMethod yX11_coal ∈ z_F := z_inF (i := 416) (by decide +kernel) rfl
theorem se_X11_coal : Cond.selects RX11 yX11_coal yX11_coal ∈ z_F := z_inF (i := 417) (by decide +kernel) rfl
theorem ym_X11_coal : z_ym yX11_coal cX11_coal 3 (some .int) 2 := ⟨z_inF (i := 418) (by decide +kernel) rfl, z_inF (i := 35) (by decide +kernel) rfl, by decide +kernel, by decide +kernel, by decide +kernel, by decide +kernel, by decide⟩
theorem mlX11_124 : Cond.methodLink RX11 124 yX10_addCoal ∈ z_F := z_inF (i := 419) (by decide +kernel) rfl
theorem im_X10_addCoal : Cond.instanceMethod yX10_addCoal ∈ z_F := z_inF (i := 420) (by decide +kernel) rfl
theorem se_X10_addCoal : Cond.selects RX10 yX10_addCoal yX10_addCoal ∈ z_F := z_inF (i := 421) (by decide +kernel) rfl
theorem ym_X10_addCoal : z_ym yX10_addCoal cX10_addCoal 3 (some .int) 2 := ⟨z_inF (i := 422) (by decide +kernel) rfl, z_inF (i := 36) (by decide +kernel) rfl, by decide +kernel, by decide +kernel, by decide +kernel, by decide +kernel, by decide⟩
theorem kcX10_18 : Cond.constant RX10 18 (1000000) ∈ lw_tbl := List.mem_of_getElem? (i := 423) (by decide +kernel)
theorem mlL_32 : Cond.methodLink RL 32 yX11_year ∈ z_F := z_inF (i := 424) (by decide +kernel) rfl
theorem im_X11_year : Cond.instanceMethod yX11_year ∈ z_F := z_inF (i := 425) (by decide +kernel) rfl
theorem se_X11_year : Cond.selects RX11 yX11_year yX11_year ∈ z_F := z_inF (i := 426) (by decide +kernel) rfl
theorem ym_X11_year : z_ym yX11_year cX11_year 3 (some .int) 0 := ⟨z_inF (i := 427) (by decide +kernel) rfl, z_inF (i := 35) (by decide +kernel) rfl, by decide +kernel, by decide +kernel, by decide +kernel, by decide +kernel, by decide⟩
theorem mlX11_127 : Cond.methodLink RX11 127 yX3_isFilled ∈ z_F := z_inF (i := 428) (by decide +kernel) rfl
theorem im_X3_isFilled : Cond.instanceMethod yX3_isFilled ∈ z_F := z_inF (i := 429) (by decide +kernel) rfl
theorem se_X3_isFilled : Cond.selects RX3 yX3_isFilled yX3_isFilled ∈ z_F := z_inF (i := 430) (by decide +kernel) rfl
theorem ym_X3_isFilled : z_ym yX3_isFilled cX3_isFilled 1 (some .boolean) 0 := ⟨z_inF (i := 431) (by decide +kernel) rfl, z_inF (i := 39) (by decide +kernel) rfl, by decide +kernel, by decide +kernel, by decide +kernel, by decide +kernel, by decide⟩
theorem mnX3_37 : Cond.methodLinkNest RX3 37 yX11_sumOf "BogForge" ∈ lw_tbl := List.mem_of_getElem? (i := 432) (by decide +kernel)
theorem sm_X11_sumOf : Cond.static yX11_sumOf ∈ z_F := z_inF (i := 433) (by decide +kernel) rfl
theorem ym_X11_sumOf : z_ym yX11_sumOf cX11_sumOf 3 (some .int) 1 := ⟨z_inF (i := 434) (by decide +kernel) rfl, z_inF (i := 35) (by decide +kernel) rfl, by decide +kernel, by decide +kernel, by decide +kernel, by decide +kernel, by decide⟩
theorem mlX11_131 : Cond.methodLink RX11 131 yX1_grow ∈ z_F := z_inF (i := 435) (by decide +kernel) rfl
theorem im_X1_grow : Cond.instanceMethod yX1_grow ∈ z_F := z_inF (i := 436) (by decide +kernel) rfl
theorem se_X1_grow : Cond.selects RX1 yX1_grow yX1_grow ∈ z_F := z_inF (i := 437) (by decide +kernel) rfl
theorem ym_X1_grow : z_ym yX1_grow cX1_grow 1 none 0 := ⟨z_inF (i := 438) (by decide +kernel) rfl, z_inF (i := 45) (by decide +kernel) rfl, by decide +kernel, by decide +kernel, by decide +kernel, by decide +kernel, by decide⟩
theorem kcX1_39 : Cond.constant RX1 39 (100000) ∈ lw_tbl := List.mem_of_getElem? (i := 439) (by decide +kernel)
theorem mlL_135 : Cond.methodLink RL 135 yX11_ground ∈ z_F := z_inF (i := 440) (by decide +kernel) rfl
theorem im_X11_ground : Cond.instanceMethod yX11_ground ∈ z_F := z_inF (i := 441) (by decide +kernel) rfl
theorem se_X11_ground : Cond.selects RX11 yX11_ground yX11_ground ∈ z_F := z_inF (i := 442) (by decide +kernel) rfl
theorem ym_X11_ground : z_ym yX11_ground cX11_ground 4 (some .int) 2 := ⟨z_inF (i := 443) (by decide +kernel) rfl, z_inF (i := 35) (by decide +kernel) rfl, by decide +kernel, by decide +kernel, by decide +kernel, by decide +kernel, by decide⟩
theorem mlX11_148 : Cond.methodLink RX11 148 yX11_itemOf ∈ z_F := z_inF (i := 444) (by decide +kernel) rfl
theorem sm_X11_itemOf : Cond.static yX11_itemOf ∈ z_F := z_inF (i := 445) (by decide +kernel) rfl
theorem ym_X11_itemOf : z_ym yX11_itemOf cX11_itemOf 2 (some .int) 2 := ⟨z_inF (i := 446) (by decide +kernel) rfl, z_inF (i := 35) (by decide +kernel) rfl, by decide +kernel, by decide +kernel, by decide +kernel, by decide +kernel, by decide⟩
theorem mlL_46 : Cond.methodLink RL 46 yX11_feed ∈ z_F := z_inF (i := 447) (by decide +kernel) rfl
theorem im_X11_feed : Cond.instanceMethod yX11_feed ∈ z_F := z_inF (i := 448) (by decide +kernel) rfl
theorem se_X11_feed : Cond.selects RX11 yX11_feed yX11_feed ∈ z_F := z_inF (i := 449) (by decide +kernel) rfl
theorem ym_X11_feed : z_ym yX11_feed cX11_feed 7 (some .int) 5 := ⟨z_inF (i := 450) (by decide +kernel) rfl, z_inF (i := 35) (by decide +kernel) rfl, by decide +kernel, by decide +kernel, by decide +kernel, by decide +kernel, by decide⟩
theorem mlX11_152 : Cond.methodLink RX11 152 yX9_bytesIn ∈ z_F := z_inF (i := 451) (by decide +kernel) rfl
theorem sm_X9_bytesIn : Cond.static yX9_bytesIn ∈ z_F := z_inF (i := 452) (by decide +kernel) rfl
theorem ym_X9_bytesIn : z_ym yX9_bytesIn cX9_bytesIn 3 (some .int) 1 := ⟨z_inF (i := 453) (by decide +kernel) rfl, z_inF (i := 37) (by decide +kernel) rfl, by decide +kernel, by decide +kernel, by decide +kernel, by decide +kernel, by decide⟩
theorem mlX11_159 : Cond.methodLink RX11 159 yX9_append ∈ z_F := z_inF (i := 454) (by decide +kernel) rfl
theorem im_X9_append : Cond.instanceMethod yX9_append ∈ z_F := z_inF (i := 455) (by decide +kernel) rfl
theorem se_X9_append : Cond.selects RX9 yX9_append yX9_append ∈ z_F := z_inF (i := 456) (by decide +kernel) rfl
theorem ym_X9_append : z_ym yX9_append cX9_append 4 none 1 := ⟨z_inF (i := 457) (by decide +kernel) rfl, z_inF (i := 37) (by decide +kernel) rfl, by decide +kernel, by decide +kernel, by decide +kernel, by decide +kernel, by decide⟩
theorem mlL_51 : Cond.methodLink RL 51 yX11_end ∈ z_F := z_inF (i := 458) (by decide +kernel) rfl
theorem im_X11_end : Cond.instanceMethod yX11_end ∈ z_F := z_inF (i := 459) (by decide +kernel) rfl
theorem se_X11_end : Cond.selects RX11 yX11_end yX11_end ∈ z_F := z_inF (i := 460) (by decide +kernel) rfl
theorem ym_X11_end : z_ym yX11_end cX11_end 2 (some .boolean) 1 := ⟨z_inF (i := 461) (by decide +kernel) rfl, z_inF (i := 35) (by decide +kernel) rfl, by decide +kernel, by decide +kernel, by decide +kernel, by decide +kernel, by decide⟩
theorem mlL_55 : Cond.methodLink RL 55 yX11_fault ∈ z_F := z_inF (i := 462) (by decide +kernel) rfl
theorem im_X11_fault : Cond.instanceMethod yX11_fault ∈ z_F := z_inF (i := 463) (by decide +kernel) rfl
theorem se_X11_fault : Cond.selects RX11 yX11_fault yX11_fault ∈ z_F := z_inF (i := 464) (by decide +kernel) rfl
theorem ym_X11_fault : z_ym yX11_fault cX11_fault 1 (some .int) 0 := ⟨z_inF (i := 465) (by decide +kernel) rfl, z_inF (i := 35) (by decide +kernel) rfl, by decide +kernel, by decide +kernel, by decide +kernel, by decide +kernel, by decide⟩
theorem mlX11_163 : Cond.methodLink RX11 163 yX9_firstFault ∈ z_F := z_inF (i := 466) (by decide +kernel) rfl
theorem im_X9_firstFault : Cond.instanceMethod yX9_firstFault ∈ z_F := z_inF (i := 467) (by decide +kernel) rfl
theorem se_X9_firstFault : Cond.selects RX9 yX9_firstFault yX9_firstFault ∈ z_F := z_inF (i := 468) (by decide +kernel) rfl
theorem ym_X9_firstFault : z_ym yX9_firstFault cX9_firstFault 3 (some .int) 0 := ⟨z_inF (i := 469) (by decide +kernel) rfl, z_inF (i := 37) (by decide +kernel) rfl, by decide +kernel, by decide +kernel, by decide +kernel, by decide +kernel, by decide⟩
theorem mlX9_23 : Cond.methodLink RX9 23 yX9_byteAt ∈ z_F := z_inF (i := 470) (by decide +kernel) rfl
theorem im_X9_byteAt : Cond.instanceMethod yX9_byteAt ∈ z_F := z_inF (i := 471) (by decide +kernel) rfl
theorem se_X9_byteAt : Cond.selects RX9 yX9_byteAt yX9_byteAt ∈ z_F := z_inF (i := 472) (by decide +kernel) rfl
theorem ym_X9_byteAt : z_ym yX9_byteAt cX9_byteAt 2 (some .int) 1 := ⟨z_inF (i := 473) (by decide +kernel) rfl, z_inF (i := 37) (by decide +kernel) rfl, by decide +kernel, by decide +kernel, by decide +kernel, by decide +kernel, by decide⟩
theorem mnX9_19 : Cond.methodLinkNest RX9 19 yX11_itemOf "BogForge" ∈ lw_tbl := List.mem_of_getElem? (i := 474) (by decide +kernel)
theorem mlX9_27 : Cond.methodLink RX9 27 yX9_after ∈ z_F := z_inF (i := 475) (by decide +kernel) rfl
theorem sm_X9_after : Cond.static yX9_after ∈ z_F := z_inF (i := 476) (by decide +kernel) rfl
theorem ym_X9_after : z_ym yX9_after cX9_after 2 (some .int) 2 := ⟨z_inF (i := 477) (by decide +kernel) rfl, z_inF (i := 37) (by decide +kernel) rfl, by decide +kernel, by decide +kernel, by decide +kernel, by decide +kernel, by decide⟩
theorem mlX9_31 : Cond.methodLink RX9 31 yX9_isLetter ∈ z_F := z_inF (i := 478) (by decide +kernel) rfl
theorem sm_X9_isLetter : Cond.static yX9_isLetter ∈ z_F := z_inF (i := 479) (by decide +kernel) rfl
theorem ym_X9_isLetter : z_ym yX9_isLetter cX9_isLetter 1 (some .boolean) 1 := ⟨z_inF (i := 480) (by decide +kernel) rfl, z_inF (i := 37) (by decide +kernel) rfl, by decide +kernel, by decide +kernel, by decide +kernel, by decide +kernel, by decide⟩
theorem mlX9_35 : Cond.methodLink RX9 35 yX9_isSign ∈ z_F := z_inF (i := 481) (by decide +kernel) rfl
theorem sm_X9_isSign : Cond.static yX9_isSign ∈ z_F := z_inF (i := 482) (by decide +kernel) rfl
theorem ym_X9_isSign : z_ym yX9_isSign cX9_isSign 1 (some .boolean) 1 := ⟨z_inF (i := 483) (by decide +kernel) rfl, z_inF (i := 37) (by decide +kernel) rfl, by decide +kernel, by decide +kernel, by decide +kernel, by decide +kernel, by decide⟩
theorem mlX9_38 : Cond.methodLink RX9 38 yX9_isDigit ∈ z_F := z_inF (i := 484) (by decide +kernel) rfl
theorem sm_X9_isDigit : Cond.static yX9_isDigit ∈ z_F := z_inF (i := 485) (by decide +kernel) rfl
theorem ym_X9_isDigit : z_ym yX9_isDigit cX9_isDigit 1 (some .boolean) 1 := ⟨z_inF (i := 486) (by decide +kernel) rfl, z_inF (i := 37) (by decide +kernel) rfl, by decide +kernel, by decide +kernel, by decide +kernel, by decide +kernel, by decide⟩
theorem mlX9_41 : Cond.methodLink RX9 41 yX9_afterDigit ∈ z_F := z_inF (i := 487) (by decide +kernel) rfl
theorem sm_X9_afterDigit : Cond.static yX9_afterDigit ∈ z_F := z_inF (i := 488) (by decide +kernel) rfl
theorem ym_X9_afterDigit : z_ym yX9_afterDigit cX9_afterDigit 2 (some .int) 2 := ⟨z_inF (i := 489) (by decide +kernel) rfl, z_inF (i := 37) (by decide +kernel) rfl, by decide +kernel, by decide +kernel, by decide +kernel, by decide +kernel, by decide⟩
theorem mlL_59 : Cond.methodLink RL 59 yX11_rules ∈ z_F := z_inF (i := 490) (by decide +kernel) rfl
theorem im_X11_rules : Cond.instanceMethod yX11_rules ∈ z_F := z_inF (i := 491) (by decide +kernel) rfl
theorem se_X11_rules : Cond.selects RX11 yX11_rules yX11_rules ∈ z_F := z_inF (i := 492) (by decide +kernel) rfl
theorem ym_X11_rules : z_ym yX11_rules cX11_rules 1 (some .boolean) 0 := ⟨z_inF (i := 493) (by decide +kernel) rfl, z_inF (i := 35) (by decide +kernel) rfl, by decide +kernel, by decide +kernel, by decide +kernel, by decide +kernel, by decide⟩
theorem mlX11_167 : Cond.methodLink RX11 167 yX2_learn ∈ z_F := z_inF (i := 494) (by decide +kernel) rfl
theorem im_X2_learn : Cond.instanceMethod yX2_learn ∈ z_F := z_inF (i := 495) (by decide +kernel) rfl
theorem se_X2_learn : Cond.selects RX2 yX2_learn yX2_learn ∈ z_F := z_inF (i := 496) (by decide +kernel) rfl
theorem ym_X2_learn : z_ym yX2_learn cX2_learn 5 none 1 := ⟨z_inF (i := 497) (by decide +kernel) rfl, z_inF (i := 38) (by decide +kernel) rfl, by decide +kernel, by decide +kernel, by decide +kernel, by decide +kernel, by decide⟩
theorem mlX2_33 : Cond.methodLink RX2 33 yX9_byteAt ∈ z_F := z_inF (i := 498) (by decide +kernel) rfl
theorem mlX2_37 : Cond.methodLink RX2 37 yX9_isLetter ∈ z_F := z_inF (i := 499) (by decide +kernel) rfl
theorem mlX2_41 : Cond.methodLink RX2 41 yX2_open ∈ z_F := z_inF (i := 500) (by decide +kernel) rfl
theorem im_X2_open : Cond.instanceMethod yX2_open ∈ z_F := z_inF (i := 502) (by decide +kernel) rfl
theorem ym_X2_open : z_ym yX2_open cX2_open 2 none 1 := ⟨z_inF (i := 503) (by decide +kernel) rfl, z_inF (i := 38) (by decide +kernel) rfl, by decide +kernel, by decide +kernel, by decide +kernel, by decide +kernel, by decide⟩
theorem mlX2_45 : Cond.methodLink RX2 45 yX2_learnWithin ∈ z_F := z_inF (i := 504) (by decide +kernel) rfl
theorem im_X2_learnWithin : Cond.instanceMethod yX2_learnWithin ∈ z_F := z_inF (i := 506) (by decide +kernel) rfl
theorem ym_X2_learnWithin : z_ym yX2_learnWithin cX2_learnWithin 4 none 3 := ⟨z_inF (i := 507) (by decide +kernel) rfl, z_inF (i := 38) (by decide +kernel) rfl, by decide +kernel, by decide +kernel, by decide +kernel, by decide +kernel, by decide⟩
theorem mlX2_49 : Cond.methodLink RX2 49 yX9_isSign ∈ z_F := z_inF (i := 508) (by decide +kernel) rfl
theorem mlX2_52 : Cond.methodLink RX2 52 yX9_isDigit ∈ z_F := z_inF (i := 509) (by decide +kernel) rfl
theorem mlL_37 : Cond.methodLink RL 37 yX11_water ∈ z_F := z_inF (i := 510) (by decide +kernel) rfl
theorem im_X11_water : Cond.instanceMethod yX11_water ∈ z_F := z_inF (i := 511) (by decide +kernel) rfl
theorem se_X11_water : Cond.selects RX11 yX11_water yX11_water ∈ z_F := z_inF (i := 512) (by decide +kernel) rfl
theorem ym_X11_water : z_ym yX11_water cX11_water 2 (some .boolean) 1 := ⟨z_inF (i := 513) (by decide +kernel) rfl, z_inF (i := 35) (by decide +kernel) rfl, by decide +kernel, by decide +kernel, by decide +kernel, by decide +kernel, by decide⟩
theorem mlL_42 : Cond.methodLink RL 42 yX11_gap ∈ z_F := z_inF (i := 514) (by decide +kernel) rfl
theorem im_X11_gap : Cond.instanceMethod yX11_gap ∈ z_F := z_inF (i := 515) (by decide +kernel) rfl
theorem se_X11_gap : Cond.selects RX11 yX11_gap yX11_gap ∈ z_F := z_inF (i := 516) (by decide +kernel) rfl
theorem ym_X11_gap : z_ym yX11_gap cX11_gap 2 (some .boolean) 1 := ⟨z_inF (i := 517) (by decide +kernel) rfl, z_inF (i := 35) (by decide +kernel) rfl, by decide +kernel, by decide +kernel, by decide +kernel, by decide +kernel, by decide⟩
theorem mlL_64 : Cond.methodLink RL 64 yX11_charge ∈ z_F := z_inF (i := 518) (by decide +kernel) rfl
theorem im_X11_charge : Cond.instanceMethod yX11_charge ∈ z_F := z_inF (i := 519) (by decide +kernel) rfl
theorem se_X11_charge : Cond.selects RX11 yX11_charge yX11_charge ∈ z_F := z_inF (i := 520) (by decide +kernel) rfl
theorem ym_X11_charge : z_ym yX11_charge cX11_charge 3 (some .boolean) 2 := ⟨z_inF (i := 521) (by decide +kernel) rfl, z_inF (i := 35) (by decide +kernel) rfl, by decide +kernel, by decide +kernel, by decide +kernel, by decide +kernel, by decide⟩
theorem mlX11_177 : Cond.methodLink RX11 177 yX11_sumOf ∈ z_F := z_inF (i := 522) (by decide +kernel) rfl
theorem mlX11_185 : Cond.methodLink RX11 185 yX6_carry ∈ z_F := z_inF (i := 523) (by decide +kernel) rfl
theorem im_X6_carry : Cond.instanceMethod yX6_carry ∈ z_F := z_inF (i := 524) (by decide +kernel) rfl
theorem se_X6_carry : Cond.selects RX6 yX6_carry yX6_carry ∈ z_F := z_inF (i := 525) (by decide +kernel) rfl
theorem ym_X6_carry : z_ym yX6_carry cX6_carry 5 none 3 := ⟨z_inF (i := 526) (by decide +kernel) rfl, z_inF (i := 43) (by decide +kernel) rfl, by decide +kernel, by decide +kernel, by decide +kernel, by decide +kernel, by decide⟩
theorem mlX6_37 : Cond.methodLink RX6 37 yX6_divide ∈ z_F := z_inF (i := 527) (by decide +kernel) rfl
theorem im_X6_divide : Cond.instanceMethod yX6_divide ∈ z_F := z_inF (i := 528) (by decide +kernel) rfl
theorem se_X6_divide : Cond.selects RX6 yX6_divide yX6_divide ∈ z_F := z_inF (i := 529) (by decide +kernel) rfl
theorem ym_X6_divide : z_ym yX6_divide cX6_divide 10 (some .boolean) 2 := ⟨z_inF (i := 530) (by decide +kernel) rfl, z_inF (i := 43) (by decide +kernel) rfl, by decide +kernel, by decide +kernel, by decide +kernel, by decide +kernel, by decide⟩
theorem mlX6_19 : Cond.methodLink RX6 19 yJ7_fill_53178 ∈ z_F := z_inF (i := 531) (by decide +kernel) rfl
theorem sm_J7_fill_53178 : Cond.static yJ7_fill_53178 ∈ z_F := z_inF (i := 532) (by decide +kernel) rfl
theorem ym_J7_fill_53178 : z_ym yJ7_fill_53178 cJ7_fill_53178 4 none 2 := ⟨z_inF (i := 533) (by decide +kernel) rfl, z_inF (i := 47) (by decide +kernel) rfl, by decide +kernel, by decide +kernel, by decide +kernel, by decide +kernel, by decide⟩
theorem mlX6_25 : Cond.methodLink RX6 25 Lib.Math.min.name ∈ z_F := z_inF (i := 534) (by decide +kernel) rfl
theorem mlX6_31 : Cond.methodLink RX6 31 yX6_greatestRest ∈ z_F := z_inF (i := 535) (by decide +kernel) rfl
theorem im_X6_greatestRest : Cond.instanceMethod yX6_greatestRest ∈ z_F := z_inF (i := 537) (by decide +kernel) rfl
theorem ym_X6_greatestRest : z_ym yX6_greatestRest cX6_greatestRest 4 (some .int) 1 := ⟨z_inF (i := 538) (by decide +kernel) rfl, z_inF (i := 43) (by decide +kernel) rfl, by decide +kernel, by decide +kernel, by decide +kernel, by decide +kernel, by decide⟩
theorem klX6_35 : Cond.constantLong RX6 35 (-1) ∈ lw_tbl := List.mem_of_getElem? (i := 539) (by decide +kernel)
theorem mlL_69 : Cond.methodLink RL 69 yX11_blow ∈ z_F := z_inF (i := 540) (by decide +kernel) rfl
theorem im_X11_blow : Cond.instanceMethod yX11_blow ∈ z_F := z_inF (i := 541) (by decide +kernel) rfl
theorem se_X11_blow : Cond.selects RX11 yX11_blow yX11_blow ∈ z_F := z_inF (i := 542) (by decide +kernel) rfl
theorem ym_X11_blow : z_ym yX11_blow cX11_blow 3 (some .int) 1 := ⟨z_inF (i := 543) (by decide +kernel) rfl, z_inF (i := 35) (by decide +kernel) rfl, by decide +kernel, by decide +kernel, by decide +kernel, by decide +kernel, by decide⟩
theorem mlX11_201 : Cond.methodLink RX11 201 yX3_passMinute ∈ z_F := z_inF (i := 544) (by decide +kernel) rfl
theorem im_X3_passMinute : Cond.instanceMethod yX3_passMinute ∈ z_F := z_inF (i := 545) (by decide +kernel) rfl
theorem se_X3_passMinute : Cond.selects RX3 yX3_passMinute yX3_passMinute ∈ z_F := z_inF (i := 546) (by decide +kernel) rfl
theorem ym_X3_passMinute : z_ym yX3_passMinute cX3_passMinute 4 none 2 := ⟨z_inF (i := 547) (by decide +kernel) rfl, z_inF (i := 39) (by decide +kernel) rfl, by decide +kernel, by decide +kernel, by decide +kernel, by decide +kernel, by decide⟩
theorem mlX3_50 : Cond.methodLink RX3 50 yX2_airFor ∈ z_F := z_inF (i := 548) (by decide +kernel) rfl
theorem im_X2_airFor : Cond.instanceMethod yX2_airFor ∈ z_F := z_inF (i := 549) (by decide +kernel) rfl
theorem se_X2_airFor : Cond.selects RX2 yX2_airFor yX2_airFor ∈ z_F := z_inF (i := 550) (by decide +kernel) rfl
theorem ym_X2_airFor : z_ym yX2_airFor cX2_airFor 3 (some .int) 1 := ⟨z_inF (i := 551) (by decide +kernel) rfl, z_inF (i := 38) (by decide +kernel) rfl, by decide +kernel, by decide +kernel, by decide +kernel, by decide +kernel, by decide⟩
theorem mlX2_55 : Cond.methodLink RX2 55 yX2_reading ∈ z_F := z_inF (i := 552) (by decide +kernel) rfl
theorem sm_X2_reading : Cond.static yX2_reading ∈ z_F := z_inF (i := 553) (by decide +kernel) rfl
theorem ym_X2_reading : z_ym yX2_reading cX2_reading 2 (some .int) 2 := ⟨z_inF (i := 554) (by decide +kernel) rfl, z_inF (i := 38) (by decide +kernel) rfl, by decide +kernel, by decide +kernel, by decide +kernel, by decide +kernel, by decide⟩
theorem mlX2_59 : Cond.methodLink RX2 59 yX2_holds ∈ z_F := z_inF (i := 555) (by decide +kernel) rfl
theorem sm_X2_holds : Cond.static yX2_holds ∈ z_F := z_inF (i := 556) (by decide +kernel) rfl
theorem ym_X2_holds : z_ym yX2_holds cX2_holds 3 (some .boolean) 3 := ⟨z_inF (i := 557) (by decide +kernel) rfl, z_inF (i := 38) (by decide +kernel) rfl, by decide +kernel, by decide +kernel, by decide +kernel, by decide +kernel, by decide⟩
theorem mlX3_59 : Cond.methodLink RX3 59 Lib.Math.min.name ∈ z_F := z_inF (i := 558) (by decide +kernel) rfl
theorem mlX3_68 : Cond.methodLink RX3 68 Lib.Math.max.name ∈ z_F := z_inF (i := 559) (by decide +kernel) rfl
theorem mlX3_71 : Cond.methodLink RX3 71 yX3_reduce ∈ z_F := z_inF (i := 560) (by decide +kernel) rfl
theorem im_X3_reduce : Cond.instanceMethod yX3_reduce ∈ z_F := z_inF (i := 562) (by decide +kernel) rfl
theorem ym_X3_reduce : z_ym yX3_reduce cX3_reduce 3 none 2 := ⟨z_inF (i := 563) (by decide +kernel) rfl, z_inF (i := 39) (by decide +kernel) rfl, by decide +kernel, by decide +kernel, by decide +kernel, by decide +kernel, by decide⟩
theorem mlX3_78 : Cond.methodLink RX3 78 yX6_carry ∈ z_F := z_inF (i := 564) (by decide +kernel) rfl
theorem mlX3_75 : Cond.methodLink RX3 75 yX3_noteScorch ∈ z_F := z_inF (i := 565) (by decide +kernel) rfl
theorem im_X3_noteScorch : Cond.instanceMethod yX3_noteScorch ∈ z_F := z_inF (i := 567) (by decide +kernel) rfl
theorem ym_X3_noteScorch : z_ym yX3_noteScorch cX3_noteScorch 1 none 0 := ⟨z_inF (i := 568) (by decide +kernel) rfl, z_inF (i := 39) (by decide +kernel) rfl, by decide +kernel, by decide +kernel, by decide +kernel, by decide +kernel, by decide⟩
theorem mlL_78 : Cond.methodLink RL 78 yX11_furnace ∈ z_F := z_inF (i := 569) (by decide +kernel) rfl
theorem im_X11_furnace : Cond.instanceMethod yX11_furnace ∈ z_F := z_inF (i := 570) (by decide +kernel) rfl
theorem se_X11_furnace : Cond.selects RX11 yX11_furnace yX11_furnace ∈ z_F := z_inF (i := 571) (by decide +kernel) rfl
theorem ym_X11_furnace : z_ym yX11_furnace cX11_furnace 2 (some .int) 1 := ⟨z_inF (i := 572) (by decide +kernel) rfl, z_inF (i := 35) (by decide +kernel) rfl, by decide +kernel, by decide +kernel, by decide +kernel, by decide +kernel, by decide⟩
theorem mlL_74 : Cond.methodLink RL 74 yX11_draw ∈ z_F := z_inF (i := 573) (by decide +kernel) rfl
theorem im_X11_draw : Cond.instanceMethod yX11_draw ∈ z_F := z_inF (i := 574) (by decide +kernel) rfl
theorem se_X11_draw : Cond.selects RX11 yX11_draw yX11_draw ∈ z_F := z_inF (i := 575) (by decide +kernel) rfl
theorem ym_X11_draw : z_ym yX11_draw cX11_draw 2 (some .int) 0 := ⟨z_inF (i := 576) (by decide +kernel) rfl, z_inF (i := 35) (by decide +kernel) rfl, by decide +kernel, by decide +kernel, by decide +kernel, by decide +kernel, by decide⟩
theorem insX0 : Cond.instantiable RX0 7 ∈ z_F := z_inF (i := 577) (by decide +kernel) rfl
theorem mlX11_226 : Cond.methodLink RX11 226 yX3_sortOfBloom ∈ z_F := z_inF (i := 578) (by decide +kernel) rfl
theorem im_X3_sortOfBloom : Cond.instanceMethod yX3_sortOfBloom ∈ z_F := z_inF (i := 579) (by decide +kernel) rfl
theorem se_X3_sortOfBloom : Cond.selects RX3 yX3_sortOfBloom yX3_sortOfBloom ∈ z_F := z_inF (i := 580) (by decide +kernel) rfl
theorem ym_X3_sortOfBloom : z_ym yX3_sortOfBloom cX3_sortOfBloom 1 (some .int) 0 := ⟨z_inF (i := 581) (by decide +kernel) rfl, z_inF (i := 39) (by decide +kernel) rfl, by decide +kernel, by decide +kernel, by decide +kernel, by decide +kernel, by decide⟩
theorem mlX11_229 : Cond.methodLink RX11 229 yX0_init ∈ z_F := z_inF (i := 582) (by decide +kernel) rfl
theorem im_X0_init : Cond.instanceMethod yX0_init ∈ z_F := z_inF (i := 583) (by decide +kernel) rfl
theorem ym_X0_init : z_ym yX0_init cX0_init 3 none 2 := ⟨z_inF (i := 584) (by decide +kernel) rfl, z_inF (i := 48) (by decide +kernel) rfl, by decide +kernel, by decide +kernel, by decide +kernel, by decide +kernel, by decide⟩
theorem mlX0_3 : Cond.methodLink RX0 3 objectInit ∈ z_F := z_inF (i := 585) (by decide +kernel) rfl
theorem flX0_9 : z_FL RX0 9 0 0 (.array .int) 1 := ⟨_, _, _, tyX0, rfl, fcX0, by decide, z_inF (i := 586) (by decide +kernel) rfl, tyX0_ok, nmX0, by decide +kernel, by decide +kernel, by decide +kernel⟩
theorem flX8_28 : z_FL RX8 28 0 0 (.array .int) 2 := ⟨_, _, _, tyX0, rfl, fcX0, by decide, z_inF (i := 587) (by decide +kernel) rfl, tyX0_ok, nmX0, by decide +kernel, by decide +kernel, by decide +kernel⟩
theorem flX11_239 : z_FL RX11 239 0 0 (.array .int) 2 := ⟨_, _, _, tyX0, rfl, fcX0, by decide, z_inF (i := 588) (by decide +kernel) rfl, tyX0_ok, nmX0, by decide +kernel, by decide +kernel, by decide +kernel⟩
theorem flX0_15 : z_FL RX0 15 0 1 (.array .int) 1 := ⟨_, _, _, tyX0, rfl, fcX0, by decide, z_inF (i := 589) (by decide +kernel) rfl, tyX0_ok, nmX0, by decide +kernel, by decide +kernel, by decide +kernel⟩
theorem flX11_249 : z_FL RX11 249 0 1 (.array .int) 2 := ⟨_, _, _, tyX0, rfl, fcX0, by decide, z_inF (i := 590) (by decide +kernel) rfl, tyX0_ok, nmX0, by decide +kernel, by decide +kernel, by decide +kernel⟩
theorem flX0_18 : z_FL RX0 18 0 2 .int 1 := ⟨_, _, _, tyX0, rfl, fcX0, by decide, z_inF (i := 591) (by decide +kernel) rfl, tyX0_ok, nmX0, by decide +kernel, by decide +kernel, by decide +kernel⟩
theorem flX0_22 : z_FL RX0 22 0 3 .int 1 := ⟨_, _, _, tyX0, rfl, fcX0, by decide, z_inF (i := 592) (by decide +kernel) rfl, tyX0_ok, nmX0, by decide +kernel, by decide +kernel, by decide +kernel⟩
theorem flX11_277 : z_FL RX11 277 0 3 .int 2 := ⟨_, _, _, tyX0, rfl, fcX0, by decide, z_inF (i := 593) (by decide +kernel) rfl, tyX0_ok, nmX0, by decide +kernel, by decide +kernel, by decide +kernel⟩
theorem flX0_25 : z_FL RX0 25 0 4 .int 0 := ⟨_, _, _, tyX0, rfl, fcX0, by decide, z_inF (i := 594) (by decide +kernel) rfl, tyX0_ok, nmX0, by decide +kernel, by decide +kernel, by decide +kernel⟩
theorem flX5_56 : z_FL RX5 56 0 4 .int 0 := ⟨_, _, _, tyX0, rfl, fcX0, by decide, z_inF (i := 595) (by decide +kernel) rfl, tyX0_ok, nmX0, by decide +kernel, by decide +kernel, by decide +kernel⟩
theorem flX11_271 : z_FL RX11 271 0 4 .int 0 := ⟨_, _, _, tyX0, rfl, fcX0, by decide, z_inF (i := 596) (by decide +kernel) rfl, tyX0_ok, nmX0, by decide +kernel, by decide +kernel, by decide +kernel⟩
theorem flX0_28 : z_FL RX0 28 0 5 .int 0 := ⟨_, _, _, tyX0, rfl, fcX0, by decide, z_inF (i := 597) (by decide +kernel) rfl, tyX0_ok, nmX0, by decide +kernel, by decide +kernel, by decide +kernel⟩
theorem flX11_274 : z_FL RX11 274 0 5 .int 0 := ⟨_, _, _, tyX0, rfl, fcX0, by decide, z_inF (i := 598) (by decide +kernel) rfl, tyX0_ok, nmX0, by decide +kernel, by decide +kernel, by decide +kernel⟩
theorem flX0_37 : z_FL RX0 37 0 6 .int 0 := ⟨_, _, _, tyX0, rfl, fcX0, by decide, z_inF (i := 599) (by decide +kernel) rfl, tyX0_ok, nmX0, by decide +kernel, by decide +kernel, by decide +kernel⟩
theorem flX11_262 : z_FL RX11 262 0 6 .int 0 := ⟨_, _, _, tyX0, rfl, fcX0, by decide, z_inF (i := 600) (by decide +kernel) rfl, tyX0_ok, nmX0, by decide +kernel, by decide +kernel, by decide +kernel⟩
theorem mlX11_232 : Cond.methodLink RX11 232 yX11_ironInBloom ∈ z_F := z_inF (i := 616) (by decide +kernel) rfl
theorem im_X11_ironInBloom : Cond.instanceMethod yX11_ironInBloom ∈ z_F := z_inF (i := 618) (by decide +kernel) rfl
theorem ym_X11_ironInBloom : z_ym yX11_ironInBloom cX11_ironInBloom 6 (some .int) 1 := ⟨z_inF (i := 619) (by decide +kernel) rfl, z_inF (i := 35) (by decide +kernel) rfl, by decide +kernel, by decide +kernel, by decide +kernel, by decide +kernel, by decide⟩
theorem klX11_256 : Cond.constantLong RX11 256 (1000) ∈ lw_tbl := List.mem_of_getElem? (i := 620) (by decide +kernel)
theorem mlX11_236 : Cond.methodLink RX11 236 yX0_setIron ∈ z_F := z_inF (i := 621) (by decide +kernel) rfl
theorem im_X0_setIron : Cond.instanceMethod yX0_setIron ∈ z_F := z_inF (i := 622) (by decide +kernel) rfl
theorem se_X0_setIron : Cond.selects RX0 yX0_setIron yX0_setIron ∈ z_F := z_inF (i := 623) (by decide +kernel) rfl
theorem ym_X0_setIron : z_ym yX0_setIron cX0_setIron 3 none 2 := ⟨z_inF (i := 624) (by decide +kernel) rfl, z_inF (i := 48) (by decide +kernel) rfl, by decide +kernel, by decide +kernel, by decide +kernel, by decide +kernel, by decide⟩
theorem mlX11_240 : Cond.methodLink RX11 240 arraycopyName ∈ z_F := z_inF (i := 625) (by decide +kernel) rfl
theorem sm_Acopy : Cond.static arraycopyName ∈ z_F := z_inF (i := 626) (by decide +kernel) rfl
theorem na_Acopy : Cond.native arraycopyName ∈ z_F := z_inF (i := 627) (by decide +kernel) rfl
theorem mlX11_253 : Cond.methodLink RX11 253 yX3_empty ∈ z_F := z_inF (i := 628) (by decide +kernel) rfl
theorem im_X3_empty : Cond.instanceMethod yX3_empty ∈ z_F := z_inF (i := 629) (by decide +kernel) rfl
theorem se_X3_empty : Cond.selects RX3 yX3_empty yX3_empty ∈ z_F := z_inF (i := 630) (by decide +kernel) rfl
theorem ym_X3_empty : z_ym yX3_empty cX3_empty 1 none 0 := ⟨z_inF (i := 631) (by decide +kernel) rfl, z_inF (i := 39) (by decide +kernel) rfl, by decide +kernel, by decide +kernel, by decide +kernel, by decide +kernel, by decide⟩
theorem mlX3_87 : Cond.methodLink RX3 87 yJ7_fill_53178 ∈ z_F := z_inF (i := 632) (by decide +kernel) rfl
theorem mlL_82 : Cond.methodLink RL 82 yX11_forge ∈ z_F := z_inF (i := 633) (by decide +kernel) rfl
theorem im_X11_forge : Cond.instanceMethod yX11_forge ∈ z_F := z_inF (i := 634) (by decide +kernel) rfl
theorem se_X11_forge : Cond.selects RX11 yX11_forge yX11_forge ∈ z_F := z_inF (i := 635) (by decide +kernel) rfl
theorem ym_X11_forge : z_ym yX11_forge cX11_forge 5 (some .int) 2 := ⟨z_inF (i := 636) (by decide +kernel) rfl, z_inF (i := 35) (by decide +kernel) rfl, by decide +kernel, by decide +kernel, by decide +kernel, by decide +kernel, by decide⟩
theorem mlX11_258 : Cond.methodLink RX11 258 yX11_barAt ∈ z_F := z_inF (i := 637) (by decide +kernel) rfl
theorem im_X11_barAt : Cond.instanceMethod yX11_barAt ∈ z_F := z_inF (i := 639) (by decide +kernel) rfl
theorem ym_X11_barAt : z_ym yX11_barAt cX11_barAt 2 (some (.object "BogForge$Bar")) 1 := ⟨z_inF (i := 640) (by decide +kernel) rfl, z_inF (i := 35) (by decide +kernel) rfl, by decide +kernel, by decide +kernel, by decide +kernel, by decide +kernel, by decide⟩
theorem mlX11_265 : Cond.methodLink RX11 265 yX0_heatOnce ∈ z_F := z_inF (i := 641) (by decide +kernel) rfl
theorem im_X0_heatOnce : Cond.instanceMethod yX0_heatOnce ∈ z_F := z_inF (i := 642) (by decide +kernel) rfl
theorem se_X0_heatOnce : Cond.selects RX0 yX0_heatOnce yX0_heatOnce ∈ z_F := z_inF (i := 643) (by decide +kernel) rfl
theorem ym_X0_heatOnce : z_ym yX0_heatOnce cX0_heatOnce 1 none 0 := ⟨z_inF (i := 644) (by decide +kernel) rfl, z_inF (i := 48) (by decide +kernel) rfl, by decide +kernel, by decide +kernel, by decide +kernel, by decide +kernel, by decide⟩
theorem klX0_31 : Cond.constantLong RX0 31 (97) ∈ lw_tbl := List.mem_of_getElem? (i := 645) (by decide +kernel)
theorem klX0_33 : Cond.constantLong RX0 33 (100) ∈ lw_tbl := List.mem_of_getElem? (i := 646) (by decide +kernel)
theorem klX0_35 : Cond.constantLong RX0 35 (99) ∈ lw_tbl := List.mem_of_getElem? (i := 647) (by decide +kernel)
theorem mlX11_268 : Cond.methodLink RX11 268 yX0_sortNow ∈ z_F := z_inF (i := 648) (by decide +kernel) rfl
theorem im_X0_sortNow : Cond.instanceMethod yX0_sortNow ∈ z_F := z_inF (i := 649) (by decide +kernel) rfl
theorem se_X0_sortNow : Cond.selects RX0 yX0_sortNow yX0_sortNow ∈ z_F := z_inF (i := 650) (by decide +kernel) rfl
theorem ym_X0_sortNow : z_ym yX0_sortNow cX0_sortNow 1 (some .int) 0 := ⟨z_inF (i := 651) (by decide +kernel) rfl, z_inF (i := 48) (by decide +kernel) rfl, by decide +kernel, by decide +kernel, by decide +kernel, by decide +kernel, by decide⟩
theorem mlX0_40 : Cond.methodLink RX0 40 Lib.Math.max.name ∈ z_F := z_inF (i := 652) (by decide +kernel) rfl
theorem mlL_86 : Cond.methodLink RL 86 yX11_bar ∈ z_F := z_inF (i := 653) (by decide +kernel) rfl
theorem im_X11_bar : Cond.instanceMethod yX11_bar ∈ z_F := z_inF (i := 654) (by decide +kernel) rfl
theorem se_X11_bar : Cond.selects RX11 yX11_bar yX11_bar ∈ z_F := z_inF (i := 655) (by decide +kernel) rfl
theorem ym_X11_bar : z_ym yX11_bar cX11_bar 4 (some .int) 2 := ⟨z_inF (i := 656) (by decide +kernel) rfl, z_inF (i := 35) (by decide +kernel) rfl, by decide +kernel, by decide +kernel, by decide +kernel, by decide +kernel, by decide⟩
theorem mlL_90 : Cond.methodLink RL 90 yX11_part ∈ z_F := z_inF (i := 657) (by decide +kernel) rfl
theorem im_X11_part : Cond.instanceMethod yX11_part ∈ z_F := z_inF (i := 658) (by decide +kernel) rfl
theorem se_X11_part : Cond.selects RX11 yX11_part yX11_part ∈ z_F := z_inF (i := 659) (by decide +kernel) rfl
theorem ym_X11_part : z_ym yX11_part cX11_part 4 (some .int) 2 := ⟨z_inF (i := 660) (by decide +kernel) rfl, z_inF (i := 35) (by decide +kernel) rfl, by decide +kernel, by decide +kernel, by decide +kernel, by decide +kernel, by decide⟩
theorem mlL_94 : Cond.methodLink RL 94 yX11_burnt ∈ z_F := z_inF (i := 661) (by decide +kernel) rfl
theorem im_X11_burnt : Cond.instanceMethod yX11_burnt ∈ z_F := z_inF (i := 662) (by decide +kernel) rfl
theorem se_X11_burnt : Cond.selects RX11 yX11_burnt yX11_burnt ∈ z_F := z_inF (i := 663) (by decide +kernel) rfl
theorem ym_X11_burnt : z_ym yX11_burnt cX11_burnt 4 (some .int) 2 := ⟨z_inF (i := 664) (by decide +kernel) rfl, z_inF (i := 35) (by decide +kernel) rfl, by decide +kernel, by decide +kernel, by decide +kernel, by decide +kernel, by decide⟩
theorem mlL_98 : Cond.methodLink RL 98 yX11_right ∈ z_F := z_inF (i := 665) (by decide +kernel) rfl
theorem im_X11_right : Cond.instanceMethod yX11_right ∈ z_F := z_inF (i := 666) (by decide +kernel) rfl
theorem se_X11_right : Cond.selects RX11 yX11_right yX11_right ∈ z_F := z_inF (i := 667) (by decide +kernel) rfl
theorem ym_X11_right : z_ym yX11_right cX11_right 5 (some .boolean) 4 := ⟨z_inF (i := 668) (by decide +kernel) rfl, z_inF (i := 35) (by decide +kernel) rfl, by decide +kernel, by decide +kernel, by decide +kernel, by decide +kernel, by decide⟩
theorem mlX11_280 : Cond.methodLink RX11 280 yX8_tell ∈ z_F := z_inF (i := 669) (by decide +kernel) rfl
theorem im_X8_tell : Cond.instanceMethod yX8_tell ∈ z_F := z_inF (i := 670) (by decide +kernel) rfl
theorem se_X8_tell : Cond.selects RX8 yX8_tell yX8_tell ∈ z_F := z_inF (i := 671) (by decide +kernel) rfl
theorem ym_X8_tell : z_ym yX8_tell cX8_tell 5 (some .boolean) 4 := ⟨z_inF (i := 672) (by decide +kernel) rfl, z_inF (i := 40) (by decide +kernel) rfl, by decide +kernel, by decide +kernel, by decide +kernel, by decide +kernel, by decide⟩
theorem mlL_103 : Cond.methodLink RL 103 yX11_pay ∈ z_F := z_inF (i := 673) (by decide +kernel) rfl
theorem im_X11_pay : Cond.instanceMethod yX11_pay ∈ z_F := z_inF (i := 674) (by decide +kernel) rfl
theorem se_X11_pay : Cond.selects RX11 yX11_pay yX11_pay ∈ z_F := z_inF (i := 675) (by decide +kernel) rfl
theorem ym_X11_pay : z_ym yX11_pay cX11_pay 3 (some .int) 2 := ⟨z_inF (i := 676) (by decide +kernel) rfl, z_inF (i := 35) (by decide +kernel) rfl, by decide +kernel, by decide +kernel, by decide +kernel, by decide +kernel, by decide⟩
theorem kcX11_284 : Cond.constant RX11 284 (1000000) ∈ lw_tbl := List.mem_of_getElem? (i := 677) (by decide +kernel)
theorem mlX11_288 : Cond.methodLink RX11 288 yX4_hasRoom ∈ z_F := z_inF (i := 678) (by decide +kernel) rfl
theorem im_X4_hasRoom : Cond.instanceMethod yX4_hasRoom ∈ z_F := z_inF (i := 679) (by decide +kernel) rfl
theorem se_X4_hasRoom : Cond.selects RX4 yX4_hasRoom yX4_hasRoom ∈ z_F := z_inF (i := 680) (by decide +kernel) rfl
theorem ym_X4_hasRoom : z_ym yX4_hasRoom cX4_hasRoom 1 (some .boolean) 0 := ⟨z_inF (i := 681) (by decide +kernel) rfl, z_inF (i := 41) (by decide +kernel) rfl, by decide +kernel, by decide +kernel, by decide +kernel, by decide +kernel, by decide⟩
theorem insX7 : Cond.instantiable RX7 4 ∈ z_F := z_inF (i := 682) (by decide +kernel) rfl
theorem mlX11_291 : Cond.methodLink RX11 291 yX7_init ∈ z_F := z_inF (i := 683) (by decide +kernel) rfl
theorem im_X7_init : Cond.instanceMethod yX7_init ∈ z_F := z_inF (i := 684) (by decide +kernel) rfl
theorem ym_X7_init : z_ym yX7_init cX7_init 4 none 3 := ⟨z_inF (i := 685) (by decide +kernel) rfl, z_inF (i := 50) (by decide +kernel) rfl, by decide +kernel, by decide +kernel, by decide +kernel, by decide +kernel, by decide⟩
theorem mlX7_3 : Cond.methodLink RX7 3 objectInit ∈ z_F := z_inF (i := 686) (by decide +kernel) rfl
theorem flX7_15 : z_FL RX7 15 7 0 .int 1 := ⟨_, _, _, tyX7, rfl, fcX7, by decide, z_inF (i := 687) (by decide +kernel) rfl, tyX7_ok, nmX7, by decide +kernel, by decide +kernel, by decide +kernel⟩
theorem flX11_313 : z_FL RX11 313 7 0 .int 2 := ⟨_, _, _, tyX7, rfl, fcX7, by decide, z_inF (i := 688) (by decide +kernel) rfl, tyX7_ok, nmX7, by decide +kernel, by decide +kernel, by decide +kernel⟩
theorem flX7_19 : z_FL RX7 19 7 1 .int 1 := ⟨_, _, _, tyX7, rfl, fcX7, by decide, z_inF (i := 689) (by decide +kernel) rfl, tyX7_ok, nmX7, by decide +kernel, by decide +kernel, by decide +kernel⟩
theorem flX11_323 : z_FL RX11 323 7 1 .int 2 := ⟨_, _, _, tyX7, rfl, fcX7, by decide, z_inF (i := 690) (by decide +kernel) rfl, tyX7_ok, nmX7, by decide +kernel, by decide +kernel, by decide +kernel⟩
theorem flX7_22 : z_FL RX7 22 7 2 .int 1 := ⟨_, _, _, tyX7, rfl, fcX7, by decide, z_inF (i := 691) (by decide +kernel) rfl, tyX7_ok, nmX7, by decide +kernel, by decide +kernel, by decide +kernel⟩
theorem flX11_316 : z_FL RX11 316 7 2 .int 2 := ⟨_, _, _, tyX7, rfl, fcX7, by decide, z_inF (i := 692) (by decide +kernel) rfl, tyX7_ok, nmX7, by decide +kernel, by decide +kernel, by decide +kernel⟩
theorem flX7_9 : z_FL RX7 9 7 3 (.array .int) 1 := ⟨_, _, _, tyX7, rfl, fcX7, by decide, z_inF (i := 693) (by decide +kernel) rfl, tyX7_ok, nmX7, by decide +kernel, by decide +kernel, by decide +kernel⟩
theorem flX11_336 : z_FL RX11 336 7 3 (.array .int) 2 := ⟨_, _, _, tyX7, rfl, fcX7, by decide, z_inF (i := 694) (by decide +kernel) rfl, tyX7_ok, nmX7, by decide +kernel, by decide +kernel, by decide +kernel⟩
theorem mlX11_292 : Cond.methodLink RX11 292 yX11_settle ∈ z_F := z_inF (i := 704) (by decide +kernel) rfl
theorem im_X11_settle : Cond.instanceMethod yX11_settle ∈ z_F := z_inF (i := 706) (by decide +kernel) rfl
theorem ym_X11_settle : z_ym yX11_settle cX11_settle 7 (some .int) 1 := ⟨z_inF (i := 707) (by decide +kernel) rfl, z_inF (i := 35) (by decide +kernel) rfl, by decide +kernel, by decide +kernel, by decide +kernel, by decide +kernel, by decide⟩
theorem mlX11_319 : Cond.methodLink RX11 319 yX8_claimOf ∈ z_F := z_inF (i := 708) (by decide +kernel) rfl
theorem im_X8_claimOf : Cond.instanceMethod yX8_claimOf ∈ z_F := z_inF (i := 709) (by decide +kernel) rfl
theorem se_X8_claimOf : Cond.selects RX8 yX8_claimOf yX8_claimOf ∈ z_F := z_inF (i := 710) (by decide +kernel) rfl
theorem ym_X8_claimOf : z_ym yX8_claimOf cX8_claimOf 6 (some .int) 3 := ⟨z_inF (i := 711) (by decide +kernel) rfl, z_inF (i := 40) (by decide +kernel) rfl, by decide +kernel, by decide +kernel, by decide +kernel, by decide +kernel, by decide⟩
theorem mlX8_33 : Cond.methodLink RX8 33 yX8_inForce ∈ z_F := z_inF (i := 712) (by decide +kernel) rfl
theorem im_X8_inForce : Cond.instanceMethod yX8_inForce ∈ z_F := z_inF (i := 714) (by decide +kernel) rfl
theorem ym_X8_inForce : z_ym yX8_inForce cX8_inForce 8 (some .int) 3 := ⟨z_inF (i := 715) (by decide +kernel) rfl, z_inF (i := 40) (by decide +kernel) rfl, by decide +kernel, by decide +kernel, by decide +kernel, by decide +kernel, by decide⟩
theorem mlX11_326 : Cond.methodLink RX11 326 yX6_divide ∈ z_F := z_inF (i := 716) (by decide +kernel) rfl
theorem mlX11_330 : Cond.methodLink RX11 330 yX6_giveAllToFirst ∈ z_F := z_inF (i := 717) (by decide +kernel) rfl
theorem im_X6_giveAllToFirst : Cond.instanceMethod yX6_giveAllToFirst ∈ z_F := z_inF (i := 718) (by decide +kernel) rfl
theorem se_X6_giveAllToFirst : Cond.selects RX6 yX6_giveAllToFirst yX6_giveAllToFirst ∈ z_F := z_inF (i := 719) (by decide +kernel) rfl
theorem ym_X6_giveAllToFirst : z_ym yX6_giveAllToFirst cX6_giveAllToFirst 2 none 1 := ⟨z_inF (i := 720) (by decide +kernel) rfl, z_inF (i := 43) (by decide +kernel) rfl, by decide +kernel, by decide +kernel, by decide +kernel, by decide +kernel, by decide⟩
theorem mlX11_337 : Cond.methodLink RX11 337 yX4_write ∈ z_F := z_inF (i := 721) (by decide +kernel) rfl
theorem im_X4_write : Cond.instanceMethod yX4_write ∈ z_F := z_inF (i := 722) (by decide +kernel) rfl
theorem se_X4_write : Cond.selects RX4 yX4_write yX4_write ∈ z_F := z_inF (i := 723) (by decide +kernel) rfl
theorem ym_X4_write : z_ym yX4_write cX4_write 5 none 4 := ⟨z_inF (i := 724) (by decide +kernel) rfl, z_inF (i := 41) (by decide +kernel) rfl, by decide +kernel, by decide +kernel, by decide +kernel, by decide +kernel, by decide⟩
theorem mlX4_31 : Cond.methodLink RX4 31 yX4_grow ∈ z_F := z_inF (i := 725) (by decide +kernel) rfl
theorem im_X4_grow : Cond.instanceMethod yX4_grow ∈ z_F := z_inF (i := 727) (by decide +kernel) rfl
theorem ym_X4_grow : z_ym yX4_grow cX4_grow 2 none 0 := ⟨z_inF (i := 728) (by decide +kernel) rfl, z_inF (i := 41) (by decide +kernel) rfl, by decide +kernel, by decide +kernel, by decide +kernel, by decide +kernel, by decide⟩
theorem mlX4_34 : Cond.methodLink RX4 34 Lib.Math.min.name ∈ z_F := z_inF (i := 729) (by decide +kernel) rfl
theorem mlX4_40 : Cond.methodLink RX4 40 yJ7_copyOf_59c91 ∈ z_F := z_inF (i := 730) (by decide +kernel) rfl
theorem sm_J7_copyOf_59c91 : Cond.static yJ7_copyOf_59c91 ∈ z_F := z_inF (i := 731) (by decide +kernel) rfl
theorem ym_J7_copyOf_59c91 : z_ym yJ7_copyOf_59c91 cJ7_copyOf_59c91 3 (some (.array .int)) 2 := ⟨z_inF (i := 732) (by decide +kernel) rfl, z_inF (i := 47) (by decide +kernel) rfl, by decide +kernel, by decide +kernel, by decide +kernel, by decide +kernel, by decide⟩
theorem mlJ7_304 : Cond.methodLink RJ7 304 Lib.Math.min.name ∈ z_F := z_inF (i := 740) (by decide +kernel) rfl
theorem mlJ7_150 : Cond.methodLink RJ7 150 arraycopyName ∈ z_F := z_inF (i := 741) (by decide +kernel) rfl
theorem mlL_107 : Cond.methodLink RL 107 yX11_again ∈ z_F := z_inF (i := 742) (by decide +kernel) rfl
theorem im_X11_again : Cond.instanceMethod yX11_again ∈ z_F := z_inF (i := 743) (by decide +kernel) rfl
theorem se_X11_again : Cond.selects RX11 yX11_again yX11_again ∈ z_F := z_inF (i := 744) (by decide +kernel) rfl
theorem ym_X11_again : z_ym yX11_again cX11_again 2 (some .int) 1 := ⟨z_inF (i := 745) (by decide +kernel) rfl, z_inF (i := 35) (by decide +kernel) rfl, by decide +kernel, by decide +kernel, by decide +kernel, by decide +kernel, by decide⟩
theorem mlL_111 : Cond.methodLink RL 111 yX11_line ∈ z_F := z_inF (i := 746) (by decide +kernel) rfl
theorem im_X11_line : Cond.instanceMethod yX11_line ∈ z_F := z_inF (i := 747) (by decide +kernel) rfl
theorem se_X11_line : Cond.selects RX11 yX11_line yX11_line ∈ z_F := z_inF (i := 748) (by decide +kernel) rfl
theorem ym_X11_line : z_ym yX11_line cX11_line 3 (some .int) 2 := ⟨z_inF (i := 749) (by decide +kernel) rfl, z_inF (i := 35) (by decide +kernel) rfl, by decide +kernel, by decide +kernel, by decide +kernel, by decide +kernel, by decide⟩
theorem mlL_115 : Cond.methodLink RL 115 yX11_coins ∈ z_F := z_inF (i := 750) (by decide +kernel) rfl
theorem im_X11_coins : Cond.instanceMethod yX11_coins ∈ z_F := z_inF (i := 751) (by decide +kernel) rfl
theorem se_X11_coins : Cond.selects RX11 yX11_coins yX11_coins ∈ z_F := z_inF (i := 752) (by decide +kernel) rfl
theorem ym_X11_coins : z_ym yX11_coins cX11_coins 2 (some .int) 1 := ⟨z_inF (i := 753) (by decide +kernel) rfl, z_inF (i := 35) (by decide +kernel) rfl, by decide +kernel, by decide +kernel, by decide +kernel, by decide +kernel, by decide⟩
theorem mlL_119 : Cond.methodLink RL 119 yX11_order ∈ z_F := z_inF (i := 754) (by decide +kernel) rfl
theorem im_X11_order : Cond.instanceMethod yX11_order ∈ z_F := z_inF (i := 755) (by decide +kernel) rfl
theorem se_X11_order : Cond.selects RX11 yX11_order yX11_order ∈ z_F := z_inF (i := 756) (by decide +kernel) rfl
theorem ym_X11_order : z_ym yX11_order cX11_order 3 (some .int) 2 := ⟨z_inF (i := 757) (by decide +kernel) rfl, z_inF (i := 35) (by decide +kernel) rfl, by decide +kernel, by decide +kernel, by decide +kernel, by decide +kernel, by decide⟩
theorem mlX11_341 : Cond.methodLink RX11 341 yX5_take ∈ z_F := z_inF (i := 758) (by decide +kernel) rfl
theorem im_X5_take : Cond.instanceMethod yX5_take ∈ z_F := z_inF (i := 759) (by decide +kernel) rfl
theorem se_X5_take : Cond.selects RX5 yX5_take yX5_take ∈ z_F := z_inF (i := 760) (by decide +kernel) rfl
theorem ym_X5_take : z_ym yX5_take cX5_take 3 (some .int) 2 := ⟨z_inF (i := 761) (by decide +kernel) rfl, z_inF (i := 42) (by decide +kernel) rfl, by decide +kernel, by decide +kernel, by decide +kernel, by decide +kernel, by decide⟩
theorem mlL_123 : Cond.methodLink RL 123 yX11_clear ∈ z_F := z_inF (i := 762) (by decide +kernel) rfl
theorem im_X11_clear : Cond.instanceMethod yX11_clear ∈ z_F := z_inF (i := 763) (by decide +kernel) rfl
theorem se_X11_clear : Cond.selects RX11 yX11_clear yX11_clear ∈ z_F := z_inF (i := 764) (by decide +kernel) rfl
theorem ym_X11_clear : z_ym yX11_clear cX11_clear 1 none 0 := ⟨z_inF (i := 765) (by decide +kernel) rfl, z_inF (i := 35) (by decide +kernel) rfl, by decide +kernel, by decide +kernel, by decide +kernel, by decide +kernel, by decide⟩
theorem mlL_127 : Cond.methodLink RL 127 yX11_met ∈ z_F := z_inF (i := 766) (by decide +kernel) rfl
theorem im_X11_met : Cond.instanceMethod yX11_met ∈ z_F := z_inF (i := 767) (by decide +kernel) rfl
theorem se_X11_met : Cond.selects RX11 yX11_met yX11_met ∈ z_F := z_inF (i := 768) (by decide +kernel) rfl
theorem ym_X11_met : z_ym yX11_met cX11_met 2 (some .int) 1 := ⟨z_inF (i := 769) (by decide +kernel) rfl, z_inF (i := 35) (by decide +kernel) rfl, by decide +kernel, by decide +kernel, by decide +kernel, by decide +kernel, by decide⟩
theorem mlX11_345 : Cond.methodLink RX11 345 yX5_match ∈ z_F := z_inF (i := 770) (by decide +kernel) rfl
theorem im_X5_match : Cond.instanceMethod yX5_match ∈ z_F := z_inF (i := 771) (by decide +kernel) rfl
theorem se_X5_match : Cond.selects RX5 yX5_match yX5_match ∈ z_F := z_inF (i := 772) (by decide +kernel) rfl
theorem ym_X5_match : z_ym yX5_match cX5_match 4 none 2 := ⟨z_inF (i := 773) (by decide +kernel) rfl, z_inF (i := 42) (by decide +kernel) rfl, by decide +kernel, by decide +kernel, by decide +kernel, by decide +kernel, by decide⟩
theorem mlX5_62 : Cond.methodLink RX5 62 yX5_weigh ∈ z_F := z_inF (i := 774) (by decide +kernel) rfl
theorem im_X5_weigh : Cond.instanceMethod yX5_weigh ∈ z_F := z_inF (i := 775) (by decide +kernel) rfl
theorem se_X5_weigh : Cond.selects RX5 yX5_weigh yX5_weigh ∈ z_F := z_inF (i := 776) (by decide +kernel) rfl
theorem ym_X5_weigh : z_ym yX5_weigh cX5_weigh 5 none 2 := ⟨z_inF (i := 777) (by decide +kernel) rfl, z_inF (i := 42) (by decide +kernel) rfl, by decide +kernel, by decide +kernel, by decide +kernel, by decide +kernel, by decide⟩
theorem mlX5_41 : Cond.methodLink RX5 41 Lib.Math.min.name ∈ z_F := z_inF (i := 778) (by decide +kernel) rfl
theorem mlX5_50 : Cond.methodLink RX5 50 yX0_sortNow ∈ z_F := z_inF (i := 779) (by decide +kernel) rfl
theorem mlX5_59 : Cond.methodLink RX5 59 yX5_ordersThatFit ∈ z_F := z_inF (i := 780) (by decide +kernel) rfl
theorem im_X5_ordersThatFit : Cond.instanceMethod yX5_ordersThatFit ∈ z_F := z_inF (i := 782) (by decide +kernel) rfl
theorem ym_X5_ordersThatFit : z_ym yX5_ordersThatFit cX5_ordersThatFit 5 (some .int) 2 := ⟨z_inF (i := 783) (by decide +kernel) rfl, z_inF (i := 42) (by decide +kernel) rfl, by decide +kernel, by decide +kernel, by decide +kernel, by decide +kernel, by decide⟩
theorem mlX5_66 : Cond.methodLink RX5 66 yJ7_fill_53178 ∈ z_F := z_inF (i := 784) (by decide +kernel) rfl
theorem mlX5_72 : Cond.methodLink RX5 72 yX5_findBar ∈ z_F := z_inF (i := 785) (by decide +kernel) rfl
theorem im_X5_findBar : Cond.instanceMethod yX5_findBar ∈ z_F := z_inF (i := 787) (by decide +kernel) rfl
theorem ym_X5_findBar : z_ym yX5_findBar cX5_findBar 6 (some .boolean) 1 := ⟨z_inF (i := 788) (by decide +kernel) rfl, z_inF (i := 42) (by decide +kernel) rfl, by decide +kernel, by decide +kernel, by decide +kernel, by decide +kernel, by decide⟩
theorem mlX5_80 : Cond.methodLink RX5 80 yX5_handOver ∈ z_F := z_inF (i := 789) (by decide +kernel) rfl
theorem im_X5_handOver : Cond.instanceMethod yX5_handOver ∈ z_F := z_inF (i := 791) (by decide +kernel) rfl
theorem ym_X5_handOver : z_ym yX5_handOver cX5_handOver 6 none 1 := ⟨z_inF (i := 792) (by decide +kernel) rfl, z_inF (i := 42) (by decide +kernel) rfl, by decide +kernel, by decide +kernel, by decide +kernel, by decide +kernel, by decide⟩
theorem mlX5_76 : Cond.methodLink RX5 76 yX5_lowerBar ∈ z_F := z_inF (i := 793) (by decide +kernel) rfl
theorem im_X5_lowerBar : Cond.instanceMethod yX5_lowerBar ∈ z_F := z_inF (i := 795) (by decide +kernel) rfl
theorem ym_X5_lowerBar : z_ym yX5_lowerBar cX5_lowerBar 3 none 1 := ⟨z_inF (i := 796) (by decide +kernel) rfl, z_inF (i := 42) (by decide +kernel) rfl, by decide +kernel, by decide +kernel, by decide +kernel, by decide +kernel, by decide⟩
theorem mlX5_83 : Cond.methodLink RX5 83 yX5_swapTo ∈ z_F := z_inF (i := 797) (by decide +kernel) rfl
theorem im_X5_swapTo : Cond.instanceMethod yX5_swapTo ∈ z_F := z_inF (i := 799) (by decide +kernel) rfl
theorem ym_X5_swapTo : z_ym yX5_swapTo cX5_swapTo 5 (some .boolean) 2 := ⟨z_inF (i := 800) (by decide +kernel) rfl, z_inF (i := 42) (by decide +kernel) rfl, by decide +kernel, by decide +kernel, by decide +kernel, by decide +kernel, by decide⟩
theorem mlL_131 : Cond.methodLink RL 131 yX11_want ∈ z_F := z_inF (i := 801) (by decide +kernel) rfl
theorem im_X11_want : Cond.instanceMethod yX11_want ∈ z_F := z_inF (i := 802) (by decide +kernel) rfl
theorem se_X11_want : Cond.selects RX11 yX11_want yX11_want ∈ z_F := z_inF (i := 803) (by decide +kernel) rfl
theorem ym_X11_want : z_ym yX11_want cX11_want 1 (some .int) 0 := ⟨z_inF (i := 804) (by decide +kernel) rfl, z_inF (i := 35) (by decide +kernel) rfl, by decide +kernel, by decide +kernel, by decide +kernel, by decide +kernel, by decide⟩
theorem mlX11_352 : Cond.methodLink RX11 352 yX5_weigh ∈ z_F := z_inF (i := 805) (by decide +kernel) rfl
theorem mlX11_355 : Cond.methodLink RX11 355 yX5_leastWanting ∈ z_F := z_inF (i := 806) (by decide +kernel) rfl
theorem im_X5_leastWanting : Cond.instanceMethod yX5_leastWanting ∈ z_F := z_inF (i := 807) (by decide +kernel) rfl
theorem se_X5_leastWanting : Cond.selects RX5 yX5_leastWanting yX5_leastWanting ∈ z_F := z_inF (i := 808) (by decide +kernel) rfl
theorem ym_X5_leastWanting : z_ym yX5_leastWanting cX5_leastWanting 2 (some .int) 0 := ⟨z_inF (i := 809) (by decide +kernel) rfl, z_inF (i := 42) (by decide +kernel) rfl, by decide +kernel, by decide +kernel, by decide +kernel, by decide +kernel, by decide⟩
theorem mlX5_87 : Cond.methodLink RX5 87 yX5_barsFor ∈ z_F := z_inF (i := 810) (by decide +kernel) rfl
theorem im_X5_barsFor : Cond.instanceMethod yX5_barsFor ∈ z_F := z_inF (i := 812) (by decide +kernel) rfl
theorem ym_X5_barsFor : z_ym yX5_barsFor cX5_barsFor 4 (some .int) 1 := ⟨z_inF (i := 813) (by decide +kernel) rfl, z_inF (i := 42) (by decide +kernel) rfl, by decide +kernel, by decide +kernel, by decide +kernel, by decide +kernel, by decide⟩
theorem mlX5_91 : Cond.methodLink RX5 91 yJ6_bitCount_0f7a4 ∈ z_F := z_inF (i := 814) (by decide +kernel) rfl
theorem sm_J6_bitCount_0f7a4 : Cond.static yJ6_bitCount_0f7a4 ∈ z_F := z_inF (i := 815) (by decide +kernel) rfl
theorem ym_J6_bitCount_0f7a4 : z_ym yJ6_bitCount_0f7a4 cJ6_bitCount_0f7a4 1 (some .int) 1 := ⟨z_inF (i := 816) (by decide +kernel) rfl, z_inF (i := 51) (by decide +kernel) rfl, by decide +kernel, by decide +kernel, by decide +kernel, by decide +kernel, by decide⟩
theorem kcJ6_265 : Cond.constant RJ6 265 (1431655765) ∈ lw_tbl := List.mem_of_getElem? (i := 817) (by decide +kernel)
theorem kcJ6_266 : Cond.constant RJ6 266 (858993459) ∈ lw_tbl := List.mem_of_getElem? (i := 818) (by decide +kernel)
theorem kcJ6_267 : Cond.constant RJ6 267 (252645135) ∈ lw_tbl := List.mem_of_getElem? (i := 819) (by decide +kernel)
theorem mlL_139 : Cond.methodLink RL 139 yX11_count ∈ z_F := z_inF (i := 820) (by decide +kernel) rfl
theorem im_X11_count : Cond.instanceMethod yX11_count ∈ z_F := z_inF (i := 821) (by decide +kernel) rfl
theorem se_X11_count : Cond.selects RX11 yX11_count yX11_count ∈ z_F := z_inF (i := 822) (by decide +kernel) rfl
theorem ym_X11_count : z_ym yX11_count cX11_count 2 (some .int) 1 := ⟨z_inF (i := 823) (by decide +kernel) rfl, z_inF (i := 35) (by decide +kernel) rfl, by decide +kernel, by decide +kernel, by decide +kernel, by decide +kernel, by decide⟩
theorem mlX11_358 : Cond.methodLink RX11 358 yX5_metCount ∈ z_F := z_inF (i := 824) (by decide +kernel) rfl
theorem im_X5_metCount : Cond.instanceMethod yX5_metCount ∈ z_F := z_inF (i := 825) (by decide +kernel) rfl
theorem se_X5_metCount : Cond.selects RX5 yX5_metCount yX5_metCount ∈ z_F := z_inF (i := 826) (by decide +kernel) rfl
theorem ym_X5_metCount : z_ym yX5_metCount cX5_metCount 3 (some .int) 0 := ⟨z_inF (i := 827) (by decide +kernel) rfl, z_inF (i := 42) (by decide +kernel) rfl, by decide +kernel, by decide +kernel, by decide +kernel, by decide +kernel, by decide⟩
theorem clL_10 : Cond.classLink RL 10 RX12 ∈ z_F := z_inF (i := 828) (by decide +kernel) rfl
theorem insX12 : Cond.instantiable RX12 69 ∈ z_F := z_inF (i := 829) (by decide +kernel) rfl
theorem mlL_12 : Cond.methodLink RL 12 yX12_init ∈ z_F := z_inF (i := 830) (by decide +kernel) rfl
theorem im_X12_init : Cond.instanceMethod yX12_init ∈ z_F := z_inF (i := 831) (by decide +kernel) rfl
theorem ym_X12_init : z_ym yX12_init cX12_init 1 none 0 := ⟨z_inF (i := 832) (by decide +kernel) rfl, z_inF (i := 44) (by decide +kernel) rfl, by decide +kernel, by decide +kernel, by decide +kernel, by decide +kernel, by decide⟩
theorem mlX12_1 : Cond.methodLink RX12 1 objectInit ∈ z_F := z_inF (i := 833) (by decide +kernel) rfl
theorem flX12_191 : z_FL RX12 191 12 0 .int 0 := ⟨_, _, _, tyX12, rfl, fcX12, by decide, z_inF (i := 834) (by decide +kernel) rfl, tyX12_ok, nmX12, by decide +kernel, by decide +kernel, by decide +kernel⟩
theorem flX12_166 : z_FL RX12 166 12 1 .int 0 := ⟨_, _, _, tyX12, rfl, fcX12, by decide, z_inF (i := 835) (by decide +kernel) rfl, tyX12_ok, nmX12, by decide +kernel, by decide +kernel, by decide +kernel⟩
theorem flX12_257 : z_FL RX12 257 12 2 .int 0 := ⟨_, _, _, tyX12, rfl, fcX12, by decide, z_inF (i := 836) (by decide +kernel) rfl, tyX12_ok, nmX12, by decide +kernel, by decide +kernel, by decide +kernel⟩
theorem flX12_294 : z_FL RX12 294 12 3 .int 0 := ⟨_, _, _, tyX12, rfl, fcX12, by decide, z_inF (i := 837) (by decide +kernel) rfl, tyX12_ok, nmX12, by decide +kernel, by decide +kernel, by decide +kernel⟩
theorem flX12_287 : z_FL RX12 287 12 4 .int 0 := ⟨_, _, _, tyX12, rfl, fcX12, by decide, z_inF (i := 838) (by decide +kernel) rfl, tyX12_ok, nmX12, by decide +kernel, by decide +kernel, by decide +kernel⟩
theorem flX12_300 : z_FL RX12 300 12 5 .int 0 := ⟨_, _, _, tyX12, rfl, fcX12, by decide, z_inF (i := 839) (by decide +kernel) rfl, tyX12_ok, nmX12, by decide +kernel, by decide +kernel, by decide +kernel⟩
theorem flX12_280 : z_FL RX12 280 12 6 .int 0 := ⟨_, _, _, tyX12, rfl, fcX12, by decide, z_inF (i := 840) (by decide +kernel) rfl, tyX12_ok, nmX12, by decide +kernel, by decide +kernel, by decide +kernel⟩
theorem flX12_264 : z_FL RX12 264 12 7 .int 0 := ⟨_, _, _, tyX12, rfl, fcX12, by decide, z_inF (i := 841) (by decide +kernel) rfl, tyX12_ok, nmX12, by decide +kernel, by decide +kernel, by decide +kernel⟩
theorem flX12_9 : z_FL RX12 9 12 8 (.array .int) 1 := ⟨_, _, _, tyX12, rfl, fcX12, by decide, z_inF (i := 842) (by decide +kernel) rfl, tyX12_ok, nmX12, by decide +kernel, by decide +kernel, by decide +kernel⟩
theorem flX12_13 : z_FL RX12 13 12 9 (.array .int) 1 := ⟨_, _, _, tyX12, rfl, fcX12, by decide, z_inF (i := 843) (by decide +kernel) rfl, tyX12_ok, nmX12, by decide +kernel, by decide +kernel, by decide +kernel⟩
theorem flX12_16 : z_FL RX12 16 12 10 (.array .int) 1 := ⟨_, _, _, tyX12, rfl, fcX12, by decide, z_inF (i := 844) (by decide +kernel) rfl, tyX12_ok, nmX12, by decide +kernel, by decide +kernel, by decide +kernel⟩
theorem flX12_19 : z_FL RX12 19 12 11 (.array .int) 1 := ⟨_, _, _, tyX12, rfl, fcX12, by decide, z_inF (i := 845) (by decide +kernel) rfl, tyX12_ok, nmX12, by decide +kernel, by decide +kernel, by decide +kernel⟩
theorem flX12_22 : z_FL RX12 22 12 12 (.array .int) 1 := ⟨_, _, _, tyX12, rfl, fcX12, by decide, z_inF (i := 846) (by decide +kernel) rfl, tyX12_ok, nmX12, by decide +kernel, by decide +kernel, by decide +kernel⟩
theorem flX12_25 : z_FL RX12 25 12 13 (.array .int) 1 := ⟨_, _, _, tyX12, rfl, fcX12, by decide, z_inF (i := 847) (by decide +kernel) rfl, tyX12_ok, nmX12, by decide +kernel, by decide +kernel, by decide +kernel⟩
theorem flX12_28 : z_FL RX12 28 12 14 (.array .int) 1 := ⟨_, _, _, tyX12, rfl, fcX12, by decide, z_inF (i := 848) (by decide +kernel) rfl, tyX12_ok, nmX12, by decide +kernel, by decide +kernel, by decide +kernel⟩
theorem flX12_31 : z_FL RX12 31 12 15 (.array .int) 1 := ⟨_, _, _, tyX12, rfl, fcX12, by decide, z_inF (i := 849) (by decide +kernel) rfl, tyX12_ok, nmX12, by decide +kernel, by decide +kernel, by decide +kernel⟩
theorem flX12_34 : z_FL RX12 34 12 16 (.array .long) 1 := ⟨_, _, _, tyX12, rfl, fcX12, by decide, z_inF (i := 850) (by decide +kernel) rfl, tyX12_ok, nmX12, by decide +kernel, by decide +kernel, by decide +kernel⟩
theorem flX12_38 : z_FL RX12 38 12 17 (.array .int) 1 := ⟨_, _, _, tyX12, rfl, fcX12, by decide, z_inF (i := 851) (by decide +kernel) rfl, tyX12_ok, nmX12, by decide +kernel, by decide +kernel, by decide +kernel⟩
theorem flX12_41 : z_FL RX12 41 12 18 (.array .boolean) 1 := ⟨_, _, _, tyX12, rfl, fcX12, by decide, z_inF (i := 852) (by decide +kernel) rfl, tyX12_ok, nmX12, by decide +kernel, by decide +kernel, by decide +kernel⟩
theorem flX12_45 : z_FL RX12 45 12 19 (.array .int) 1 := ⟨_, _, _, tyX12, rfl, fcX12, by decide, z_inF (i := 853) (by decide +kernel) rfl, tyX12_ok, nmX12, by decide +kernel, by decide +kernel, by decide +kernel⟩
theorem flX12_48 : z_FL RX12 48 12 20 (.array .int) 1 := ⟨_, _, _, tyX12, rfl, fcX12, by decide, z_inF (i := 854) (by decide +kernel) rfl, tyX12_ok, nmX12, by decide +kernel, by decide +kernel, by decide +kernel⟩
theorem flX12_51 : z_FL RX12 51 12 21 (.array .int) 1 := ⟨_, _, _, tyX12, rfl, fcX12, by decide, z_inF (i := 855) (by decide +kernel) rfl, tyX12_ok, nmX12, by decide +kernel, by decide +kernel, by decide +kernel⟩
theorem flX12_199 : z_FL RX12 199 12 22 .int 0 := ⟨_, _, _, tyX12, rfl, fcX12, by decide, z_inF (i := 856) (by decide +kernel) rfl, tyX12_ok, nmX12, by decide +kernel, by decide +kernel, by decide +kernel⟩
theorem flX12_209 : z_FL RX12 209 12 23 .int 0 := ⟨_, _, _, tyX12, rfl, fcX12, by decide, z_inF (i := 857) (by decide +kernel) rfl, tyX12_ok, nmX12, by decide +kernel, by decide +kernel, by decide +kernel⟩
theorem flX12_206 : z_FL RX12 206 12 24 .int 0 := ⟨_, _, _, tyX12, rfl, fcX12, by decide, z_inF (i := 858) (by decide +kernel) rfl, tyX12_ok, nmX12, by decide +kernel, by decide +kernel, by decide +kernel⟩
theorem flX12_212 : z_FL RX12 212 12 25 .int 0 := ⟨_, _, _, tyX12, rfl, fcX12, by decide, z_inF (i := 859) (by decide +kernel) rfl, tyX12_ok, nmX12, by decide +kernel, by decide +kernel, by decide +kernel⟩
theorem flX12_221 : z_FL RX12 221 12 26 .int 0 := ⟨_, _, _, tyX12, rfl, fcX12, by decide, z_inF (i := 860) (by decide +kernel) rfl, tyX12_ok, nmX12, by decide +kernel, by decide +kernel, by decide +kernel⟩
theorem flX12_224 : z_FL RX12 224 12 27 .int 0 := ⟨_, _, _, tyX12, rfl, fcX12, by decide, z_inF (i := 861) (by decide +kernel) rfl, tyX12_ok, nmX12, by decide +kernel, by decide +kernel, by decide +kernel⟩
theorem flX12_54 : z_FL RX12 54 12 28 .int 0 := ⟨_, _, _, tyX12, rfl, fcX12, by decide, z_inF (i := 862) (by decide +kernel) rfl, tyX12_ok, nmX12, by decide +kernel, by decide +kernel, by decide +kernel⟩
theorem flX12_58 : z_FL RX12 58 12 29 .int 0 := ⟨_, _, _, tyX12, rfl, fcX12, by decide, z_inF (i := 863) (by decide +kernel) rfl, tyX12_ok, nmX12, by decide +kernel, by decide +kernel, by decide +kernel⟩
theorem flX12_61 : z_FL RX12 61 12 30 .int 0 := ⟨_, _, _, tyX12, rfl, fcX12, by decide, z_inF (i := 864) (by decide +kernel) rfl, tyX12_ok, nmX12, by decide +kernel, by decide +kernel, by decide +kernel⟩
theorem flX12_64 : z_FL RX12 64 12 31 (.array .int) 1 := ⟨_, _, _, tyX12, rfl, fcX12, by decide, z_inF (i := 865) (by decide +kernel) rfl, tyX12_ok, nmX12, by decide +kernel, by decide +kernel, by decide +kernel⟩
theorem flX12_234 : z_FL RX12 234 12 32 .int 0 := ⟨_, _, _, tyX12, rfl, fcX12, by decide, z_inF (i := 866) (by decide +kernel) rfl, tyX12_ok, nmX12, by decide +kernel, by decide +kernel, by decide +kernel⟩
theorem flX12_237 : z_FL RX12 237 12 33 .int 0 := ⟨_, _, _, tyX12, rfl, fcX12, by decide, z_inF (i := 867) (by decide +kernel) rfl, tyX12_ok, nmX12, by decide +kernel, by decide +kernel, by decide +kernel⟩
theorem flX12_215 : z_FL RX12 215 12 34 .int 0 := ⟨_, _, _, tyX12, rfl, fcX12, by decide, z_inF (i := 868) (by decide +kernel) rfl, tyX12_ok, nmX12, by decide +kernel, by decide +kernel, by decide +kernel⟩
theorem flX12_247 : z_FL RX12 247 12 35 .int 0 := ⟨_, _, _, tyX12, rfl, fcX12, by decide, z_inF (i := 869) (by decide +kernel) rfl, tyX12_ok, nmX12, by decide +kernel, by decide +kernel, by decide +kernel⟩
theorem flX12_67 : z_FL RX12 67 12 36 (.array .int) 1 := ⟨_, _, _, tyX12, rfl, fcX12, by decide, z_inF (i := 870) (by decide +kernel) rfl, tyX12_ok, nmX12, by decide +kernel, by decide +kernel, by decide +kernel⟩
theorem flX12_70 : z_FL RX12 70 12 37 (.array .int) 1 := ⟨_, _, _, tyX12, rfl, fcX12, by decide, z_inF (i := 871) (by decide +kernel) rfl, tyX12_ok, nmX12, by decide +kernel, by decide +kernel, by decide +kernel⟩
theorem flX12_73 : z_FL RX12 73 12 38 (.array .int) 1 := ⟨_, _, _, tyX12, rfl, fcX12, by decide, z_inF (i := 872) (by decide +kernel) rfl, tyX12_ok, nmX12, by decide +kernel, by decide +kernel, by decide +kernel⟩
theorem flX12_76 : z_FL RX12 76 12 39 (.array .int) 1 := ⟨_, _, _, tyX12, rfl, fcX12, by decide, z_inF (i := 873) (by decide +kernel) rfl, tyX12_ok, nmX12, by decide +kernel, by decide +kernel, by decide +kernel⟩
theorem flX12_79 : z_FL RX12 79 12 40 (.array .int) 1 := ⟨_, _, _, tyX12, rfl, fcX12, by decide, z_inF (i := 874) (by decide +kernel) rfl, tyX12_ok, nmX12, by decide +kernel, by decide +kernel, by decide +kernel⟩
theorem flX12_82 : z_FL RX12 82 12 41 (.array .int) 1 := ⟨_, _, _, tyX12, rfl, fcX12, by decide, z_inF (i := 875) (by decide +kernel) rfl, tyX12_ok, nmX12, by decide +kernel, by decide +kernel, by decide +kernel⟩
theorem flX12_85 : z_FL RX12 85 12 42 (.array .int) 1 := ⟨_, _, _, tyX12, rfl, fcX12, by decide, z_inF (i := 876) (by decide +kernel) rfl, tyX12_ok, nmX12, by decide +kernel, by decide +kernel, by decide +kernel⟩
theorem flX12_88 : z_FL RX12 88 12 43 (.array .int) 1 := ⟨_, _, _, tyX12, rfl, fcX12, by decide, z_inF (i := 877) (by decide +kernel) rfl, tyX12_ok, nmX12, by decide +kernel, by decide +kernel, by decide +kernel⟩
theorem flX12_91 : z_FL RX12 91 12 44 (.array .int) 1 := ⟨_, _, _, tyX12, rfl, fcX12, by decide, z_inF (i := 878) (by decide +kernel) rfl, tyX12_ok, nmX12, by decide +kernel, by decide +kernel, by decide +kernel⟩
theorem flX12_94 : z_FL RX12 94 12 45 (.array .int) 1 := ⟨_, _, _, tyX12, rfl, fcX12, by decide, z_inF (i := 879) (by decide +kernel) rfl, tyX12_ok, nmX12, by decide +kernel, by decide +kernel, by decide +kernel⟩
theorem flX12_97 : z_FL RX12 97 12 46 (.array .int) 1 := ⟨_, _, _, tyX12, rfl, fcX12, by decide, z_inF (i := 880) (by decide +kernel) rfl, tyX12_ok, nmX12, by decide +kernel, by decide +kernel, by decide +kernel⟩
theorem flX12_100 : z_FL RX12 100 12 47 (.array .int) 1 := ⟨_, _, _, tyX12, rfl, fcX12, by decide, z_inF (i := 881) (by decide +kernel) rfl, tyX12_ok, nmX12, by decide +kernel, by decide +kernel, by decide +kernel⟩
theorem flX12_103 : z_FL RX12 103 12 48 (.array .int) 1 := ⟨_, _, _, tyX12, rfl, fcX12, by decide, z_inF (i := 882) (by decide +kernel) rfl, tyX12_ok, nmX12, by decide +kernel, by decide +kernel, by decide +kernel⟩
theorem flX12_106 : z_FL RX12 106 12 49 (.array .int) 1 := ⟨_, _, _, tyX12, rfl, fcX12, by decide, z_inF (i := 883) (by decide +kernel) rfl, tyX12_ok, nmX12, by decide +kernel, by decide +kernel, by decide +kernel⟩
theorem flX12_109 : z_FL RX12 109 12 50 (.array .int) 1 := ⟨_, _, _, tyX12, rfl, fcX12, by decide, z_inF (i := 884) (by decide +kernel) rfl, tyX12_ok, nmX12, by decide +kernel, by decide +kernel, by decide +kernel⟩
theorem flX12_112 : z_FL RX12 112 12 51 (.array .int) 1 := ⟨_, _, _, tyX12, rfl, fcX12, by decide, z_inF (i := 885) (by decide +kernel) rfl, tyX12_ok, nmX12, by decide +kernel, by decide +kernel, by decide +kernel⟩
theorem flX12_115 : z_FL RX12 115 12 52 (.array .int) 1 := ⟨_, _, _, tyX12, rfl, fcX12, by decide, z_inF (i := 886) (by decide +kernel) rfl, tyX12_ok, nmX12, by decide +kernel, by decide +kernel, by decide +kernel⟩
theorem flX12_118 : z_FL RX12 118 12 53 (.array .int) 1 := ⟨_, _, _, tyX12, rfl, fcX12, by decide, z_inF (i := 887) (by decide +kernel) rfl, tyX12_ok, nmX12, by decide +kernel, by decide +kernel, by decide +kernel⟩
theorem flX12_121 : z_FL RX12 121 12 54 (.array .int) 1 := ⟨_, _, _, tyX12, rfl, fcX12, by decide, z_inF (i := 888) (by decide +kernel) rfl, tyX12_ok, nmX12, by decide +kernel, by decide +kernel, by decide +kernel⟩
theorem flX12_124 : z_FL RX12 124 12 55 (.array .int) 1 := ⟨_, _, _, tyX12, rfl, fcX12, by decide, z_inF (i := 889) (by decide +kernel) rfl, tyX12_ok, nmX12, by decide +kernel, by decide +kernel, by decide +kernel⟩
theorem flX12_127 : z_FL RX12 127 12 56 (.array .int) 1 := ⟨_, _, _, tyX12, rfl, fcX12, by decide, z_inF (i := 890) (by decide +kernel) rfl, tyX12_ok, nmX12, by decide +kernel, by decide +kernel, by decide +kernel⟩
theorem flX12_130 : z_FL RX12 130 12 57 (.array .int) 1 := ⟨_, _, _, tyX12, rfl, fcX12, by decide, z_inF (i := 891) (by decide +kernel) rfl, tyX12_ok, nmX12, by decide +kernel, by decide +kernel, by decide +kernel⟩
theorem flX12_133 : z_FL RX12 133 12 58 (.array .int) 1 := ⟨_, _, _, tyX12, rfl, fcX12, by decide, z_inF (i := 892) (by decide +kernel) rfl, tyX12_ok, nmX12, by decide +kernel, by decide +kernel, by decide +kernel⟩
theorem flX12_136 : z_FL RX12 136 12 59 (.array .int) 1 := ⟨_, _, _, tyX12, rfl, fcX12, by decide, z_inF (i := 893) (by decide +kernel) rfl, tyX12_ok, nmX12, by decide +kernel, by decide +kernel, by decide +kernel⟩
theorem flX12_139 : z_FL RX12 139 12 60 (.array .int) 0 := ⟨_, _, _, tyX12, rfl, fcX12, by decide, z_inF (i := 894) (by decide +kernel) rfl, tyX12_ok, nmX12, by decide +kernel, by decide +kernel, by decide +kernel⟩
theorem flX12_142 : z_FL RX12 142 12 61 (.array .int) 0 := ⟨_, _, _, tyX12, rfl, fcX12, by decide, z_inF (i := 895) (by decide +kernel) rfl, tyX12_ok, nmX12, by decide +kernel, by decide +kernel, by decide +kernel⟩
theorem flX12_145 : z_FL RX12 145 12 62 (.array .int) 0 := ⟨_, _, _, tyX12, rfl, fcX12, by decide, z_inF (i := 896) (by decide +kernel) rfl, tyX12_ok, nmX12, by decide +kernel, by decide +kernel, by decide +kernel⟩
theorem flX12_148 : z_FL RX12 148 12 63 (.array .int) 0 := ⟨_, _, _, tyX12, rfl, fcX12, by decide, z_inF (i := 897) (by decide +kernel) rfl, tyX12_ok, nmX12, by decide +kernel, by decide +kernel, by decide +kernel⟩
theorem flX12_151 : z_FL RX12 151 12 64 (.array .int) 1 := ⟨_, _, _, tyX12, rfl, fcX12, by decide, z_inF (i := 898) (by decide +kernel) rfl, tyX12_ok, nmX12, by decide +kernel, by decide +kernel, by decide +kernel⟩
theorem flX12_154 : z_FL RX12 154 12 65 (.array .int) 1 := ⟨_, _, _, tyX12, rfl, fcX12, by decide, z_inF (i := 899) (by decide +kernel) rfl, tyX12_ok, nmX12, by decide +kernel, by decide +kernel, by decide +kernel⟩
theorem flX12_157 : z_FL RX12 157 12 66 (.array .int) 1 := ⟨_, _, _, tyX12, rfl, fcX12, by decide, z_inF (i := 900) (by decide +kernel) rfl, tyX12_ok, nmX12, by decide +kernel, by decide +kernel, by decide +kernel⟩
theorem flX12_160 : z_FL RX12 160 12 67 (.array .int) 1 := ⟨_, _, _, tyX12, rfl, fcX12, by decide, z_inF (i := 901) (by decide +kernel) rfl, tyX12_ok, nmX12, by decide +kernel, by decide +kernel, by decide +kernel⟩
theorem flX12_163 : z_FL RX12 163 12 68 (.array .boolean) 1 := ⟨_, _, _, tyX12, rfl, fcX12, by decide, z_inF (i := 902) (by decide +kernel) rfl, tyX12_ok, nmX12, by decide +kernel, by decide +kernel, by decide +kernel⟩
theorem mlL_17 : Cond.methodLink RL 17 yX12_bog ∈ z_F := z_inF (i := 1042) (by decide +kernel) rfl
theorem im_X12_bog : Cond.instanceMethod yX12_bog ∈ z_F := z_inF (i := 1043) (by decide +kernel) rfl
theorem se_X12_bog : Cond.selects RX12 yX12_bog yX12_bog ∈ z_F := z_inF (i := 1044) (by decide +kernel) rfl
theorem ym_X12_bog : z_ym yX12_bog cX12_bog 4 (some .int) 3 := ⟨z_inF (i := 1045) (by decide +kernel) rfl, z_inF (i := 44) (by decide +kernel) rfl, by decide +kernel, by decide +kernel, by decide +kernel, by decide +kernel, by decide⟩
theorem kcX12_177 : Cond.constant RX12 177 (100000) ∈ lw_tbl := List.mem_of_getElem? (i := 1046) (by decide +kernel)
theorem mlX12_169 : Cond.methodLink RX12 169 yX12_in ∈ z_F := z_inF (i := 1047) (by decide +kernel) rfl
theorem sm_X12_in : Cond.static yX12_in ∈ z_F := z_inF (i := 1048) (by decide +kernel) rfl
theorem ym_X12_in : z_ym yX12_in cX12_in 3 (some .boolean) 3 := ⟨z_inF (i := 1049) (by decide +kernel) rfl, z_inF (i := 44) (by decide +kernel) rfl, by decide +kernel, by decide +kernel, by decide +kernel, by decide +kernel, by decide⟩
theorem mlL_22 : Cond.methodLink RL 22 yX12_test ∈ z_F := z_inF (i := 1050) (by decide +kernel) rfl
theorem im_X12_test : Cond.instanceMethod yX12_test ∈ z_F := z_inF (i := 1051) (by decide +kernel) rfl
theorem se_X12_test : Cond.selects RX12 yX12_test yX12_test ∈ z_F := z_inF (i := 1052) (by decide +kernel) rfl
theorem ym_X12_test : z_ym yX12_test cX12_test 4 (some .boolean) 3 := ⟨z_inF (i := 1053) (by decide +kernel) rfl, z_inF (i := 44) (by decide +kernel) rfl, by decide +kernel, by decide +kernel, by decide +kernel, by decide +kernel, by decide⟩
theorem mlX12_178 : Cond.methodLink RX12 178 yX12_isBog ∈ z_F := z_inF (i := 1054) (by decide +kernel) rfl
theorem im_X12_isBog : Cond.instanceMethod yX12_isBog ∈ z_F := z_inF (i := 1056) (by decide +kernel) rfl
theorem ym_X12_isBog : z_ym yX12_isBog cX12_isBog 2 (some .boolean) 1 := ⟨z_inF (i := 1057) (by decide +kernel) rfl, z_inF (i := 44) (by decide +kernel) rfl, by decide +kernel, by decide +kernel, by decide +kernel, by decide +kernel, by decide⟩
theorem mlX12_182 : Cond.methodLink RX12 182 Lib.Math.max.name ∈ z_F := z_inF (i := 1058) (by decide +kernel) rfl
theorem mlX12_188 : Cond.methodLink RX12 188 Lib.Math.min.name ∈ z_F := z_inF (i := 1059) (by decide +kernel) rfl
theorem mlL_27 : Cond.methodLink RL 27 yX12_dig ∈ z_F := z_inF (i := 1060) (by decide +kernel) rfl
theorem im_X12_dig : Cond.instanceMethod yX12_dig ∈ z_F := z_inF (i := 1061) (by decide +kernel) rfl
theorem se_X12_dig : Cond.selects RX12 yX12_dig yX12_dig ∈ z_F := z_inF (i := 1062) (by decide +kernel) rfl
theorem ym_X12_dig : z_ym yX12_dig cX12_dig 4 (some .int) 2 := ⟨z_inF (i := 1063) (by decide +kernel) rfl, z_inF (i := 44) (by decide +kernel) rfl, by decide +kernel, by decide +kernel, by decide +kernel, by decide +kernel, by decide⟩
theorem mlL_31 : Cond.methodLink RL 31 yX12_coal ∈ z_F := z_inF (i := 1064) (by decide +kernel) rfl
theorem im_X12_coal : Cond.instanceMethod yX12_coal ∈ z_F := z_inF (i := 1065) (by decide +kernel) rfl
theorem se_X12_coal : Cond.selects RX12 yX12_coal yX12_coal ∈ z_F := z_inF (i := 1066) (by decide +kernel) rfl
theorem ym_X12_coal : z_ym yX12_coal cX12_coal 3 (some .int) 2 := ⟨z_inF (i := 1067) (by decide +kernel) rfl, z_inF (i := 44) (by decide +kernel) rfl, by decide +kernel, by decide +kernel, by decide +kernel, by decide +kernel, by decide⟩
theorem kcX12_194 : Cond.constant RX12 194 (1000000) ∈ lw_tbl := List.mem_of_getElem? (i := 1068) (by decide +kernel)
theorem mlL_36 : Cond.methodLink RL 36 yX12_year ∈ z_F := z_inF (i := 1069) (by decide +kernel) rfl
theorem im_X12_year : Cond.instanceMethod yX12_year ∈ z_F := z_inF (i := 1070) (by decide +kernel) rfl
theorem se_X12_year : Cond.selects RX12 yX12_year yX12_year ∈ z_F := z_inF (i := 1071) (by decide +kernel) rfl
theorem ym_X12_year : z_ym yX12_year cX12_year 2 (some .int) 0 := ⟨z_inF (i := 1072) (by decide +kernel) rfl, z_inF (i := 44) (by decide +kernel) rfl, by decide +kernel, by decide +kernel, by decide +kernel, by decide +kernel, by decide⟩
theorem mlX12_195 : Cond.methodLink RX12 195 yX12_sum ∈ z_F := z_inF (i := 1073) (by decide +kernel) rfl
theorem sm_X12_sum : Cond.static yX12_sum ∈ z_F := z_inF (i := 1074) (by decide +kernel) rfl
theorem ym_X12_sum : z_ym yX12_sum cX12_sum 3 (some .int) 1 := ⟨z_inF (i := 1075) (by decide +kernel) rfl, z_inF (i := 44) (by decide +kernel) rfl, by decide +kernel, by decide +kernel, by decide +kernel, by decide +kernel, by decide⟩
theorem mlL_41 : Cond.methodLink RL 41 yX12_water ∈ z_F := z_inF (i := 1076) (by decide +kernel) rfl
theorem im_X12_water : Cond.instanceMethod yX12_water ∈ z_F := z_inF (i := 1077) (by decide +kernel) rfl
theorem se_X12_water : Cond.selects RX12 yX12_water yX12_water ∈ z_F := z_inF (i := 1078) (by decide +kernel) rfl
theorem ym_X12_water : z_ym yX12_water cX12_water 2 (some .boolean) 1 := ⟨z_inF (i := 1079) (by decide +kernel) rfl, z_inF (i := 44) (by decide +kernel) rfl, by decide +kernel, by decide +kernel, by decide +kernel, by decide +kernel, by decide⟩
theorem mlL_45 : Cond.methodLink RL 45 yX12_gap ∈ z_F := z_inF (i := 1080) (by decide +kernel) rfl
theorem im_X12_gap : Cond.instanceMethod yX12_gap ∈ z_F := z_inF (i := 1081) (by decide +kernel) rfl
theorem se_X12_gap : Cond.selects RX12 yX12_gap yX12_gap ∈ z_F := z_inF (i := 1082) (by decide +kernel) rfl
theorem ym_X12_gap : z_ym yX12_gap cX12_gap 2 (some .boolean) 1 := ⟨z_inF (i := 1083) (by decide +kernel) rfl, z_inF (i := 44) (by decide +kernel) rfl, by decide +kernel, by decide +kernel, by decide +kernel, by decide +kernel, by decide⟩
theorem mlL_68 : Cond.methodLink RL 68 yX12_charge ∈ z_F := z_inF (i := 1084) (by decide +kernel) rfl
theorem im_X12_charge : Cond.instanceMethod yX12_charge ∈ z_F := z_inF (i := 1085) (by decide +kernel) rfl
theorem se_X12_charge : Cond.selects RX12 yX12_charge yX12_charge ∈ z_F := z_inF (i := 1086) (by decide +kernel) rfl
theorem ym_X12_charge : z_ym yX12_charge cX12_charge 4 (some .boolean) 2 := ⟨z_inF (i := 1087) (by decide +kernel) rfl, z_inF (i := 44) (by decide +kernel) rfl, by decide +kernel, by decide +kernel, by decide +kernel, by decide +kernel, by decide⟩
theorem mlX12_202 : Cond.methodLink RX12 202 yX12_partBy ∈ z_F := z_inF (i := 1088) (by decide +kernel) rfl
theorem im_X12_partBy : Cond.instanceMethod yX12_partBy ∈ z_F := z_inF (i := 1090) (by decide +kernel) rfl
theorem ym_X12_partBy : z_ym yX12_partBy cX12_partBy 4 none 2 := ⟨z_inF (i := 1091) (by decide +kernel) rfl, z_inF (i := 44) (by decide +kernel) rfl, by decide +kernel, by decide +kernel, by decide +kernel, by decide +kernel, by decide⟩
theorem mlX12_173 : Cond.methodLink RX12 173 yX12_partAmong ∈ z_F := z_inF (i := 1092) (by decide +kernel) rfl
theorem im_X12_partAmong : Cond.instanceMethod yX12_partAmong ∈ z_F := z_inF (i := 1094) (by decide +kernel) rfl
theorem ym_X12_partAmong : z_ym yX12_partAmong cX12_partAmong 14 none 2 := ⟨z_inF (i := 1095) (by decide +kernel) rfl, z_inF (i := 44) (by decide +kernel) rfl, by decide +kernel, by decide +kernel, by decide +kernel, by decide +kernel, by decide⟩
theorem mlL_73 : Cond.methodLink RL 73 yX12_blow ∈ z_F := z_inF (i := 1096) (by decide +kernel) rfl
theorem im_X12_blow : Cond.instanceMethod yX12_blow ∈ z_F := z_inF (i := 1097) (by decide +kernel) rfl
theorem se_X12_blow : Cond.selects RX12 yX12_blow yX12_blow ∈ z_F := z_inF (i := 1098) (by decide +kernel) rfl
theorem ym_X12_blow : z_ym yX12_blow cX12_blow 3 (some .int) 1 := ⟨z_inF (i := 1099) (by decide +kernel) rfl, z_inF (i := 44) (by decide +kernel) rfl, by decide +kernel, by decide +kernel, by decide +kernel, by decide +kernel, by decide⟩
theorem mlX12_227 : Cond.methodLink RX12 227 yX12_minute ∈ z_F := z_inF (i := 1100) (by decide +kernel) rfl
theorem im_X12_minute : Cond.instanceMethod yX12_minute ∈ z_F := z_inF (i := 1102) (by decide +kernel) rfl
theorem ym_X12_minute : z_ym yX12_minute cX12_minute 3 none 0 := ⟨z_inF (i := 1103) (by decide +kernel) rfl, z_inF (i := 44) (by decide +kernel) rfl, by decide +kernel, by decide +kernel, by decide +kernel, by decide +kernel, by decide⟩
theorem mlX12_218 : Cond.methodLink RX12 218 yX12_holds ∈ z_F := z_inF (i := 1104) (by decide +kernel) rfl
theorem im_X12_holds : Cond.instanceMethod yX12_holds ∈ z_F := z_inF (i := 1106) (by decide +kernel) rfl
theorem ym_X12_holds : z_ym yX12_holds cX12_holds 4 (some .boolean) 1 := ⟨z_inF (i := 1107) (by decide +kernel) rfl, z_inF (i := 44) (by decide +kernel) rfl, by decide +kernel, by decide +kernel, by decide +kernel, by decide +kernel, by decide⟩
theorem mlL_81 : Cond.methodLink RL 81 yX12_furnace ∈ z_F := z_inF (i := 1108) (by decide +kernel) rfl
theorem im_X12_furnace : Cond.instanceMethod yX12_furnace ∈ z_F := z_inF (i := 1109) (by decide +kernel) rfl
theorem se_X12_furnace : Cond.selects RX12 yX12_furnace yX12_furnace ∈ z_F := z_inF (i := 1110) (by decide +kernel) rfl
theorem ym_X12_furnace : z_ym yX12_furnace cX12_furnace 2 (some .int) 1 := ⟨z_inF (i := 1111) (by decide +kernel) rfl, z_inF (i := 44) (by decide +kernel) rfl, by decide +kernel, by decide +kernel, by decide +kernel, by decide +kernel, by decide⟩
theorem mlL_50 : Cond.methodLink RL 50 yX12_feed ∈ z_F := z_inF (i := 1112) (by decide +kernel) rfl
theorem im_X12_feed : Cond.instanceMethod yX12_feed ∈ z_F := z_inF (i := 1113) (by decide +kernel) rfl
theorem se_X12_feed : Cond.selects RX12 yX12_feed yX12_feed ∈ z_F := z_inF (i := 1114) (by decide +kernel) rfl
theorem ym_X12_feed : z_ym yX12_feed cX12_feed 9 (some .int) 5 := ⟨z_inF (i := 1115) (by decide +kernel) rfl, z_inF (i := 44) (by decide +kernel) rfl, by decide +kernel, by decide +kernel, by decide +kernel, by decide +kernel, by decide⟩
theorem mlX12_230 : Cond.methodLink RX12 230 yX12_byteOf ∈ z_F := z_inF (i := 1116) (by decide +kernel) rfl
theorem sm_X12_byteOf : Cond.static yX12_byteOf ∈ z_F := z_inF (i := 1117) (by decide +kernel) rfl
theorem ym_X12_byteOf : z_ym yX12_byteOf cX12_byteOf 7 (some .int) 6 := ⟨z_inF (i := 1118) (by decide +kernel) rfl, z_inF (i := 44) (by decide +kernel) rfl, by decide +kernel, by decide +kernel, by decide +kernel, by decide +kernel, by decide⟩
theorem mlL_54 : Cond.methodLink RL 54 yX12_end ∈ z_F := z_inF (i := 1119) (by decide +kernel) rfl
theorem im_X12_end : Cond.instanceMethod yX12_end ∈ z_F := z_inF (i := 1120) (by decide +kernel) rfl
theorem se_X12_end : Cond.selects RX12 yX12_end yX12_end ∈ z_F := z_inF (i := 1121) (by decide +kernel) rfl
theorem ym_X12_end : z_ym yX12_end cX12_end 2 (some .boolean) 1 := ⟨z_inF (i := 1122) (by decide +kernel) rfl, z_inF (i := 44) (by decide +kernel) rfl, by decide +kernel, by decide +kernel, by decide +kernel, by decide +kernel, by decide⟩
theorem mlL_58 : Cond.methodLink RL 58 yX12_fault ∈ z_F := z_inF (i := 1123) (by decide +kernel) rfl
theorem im_X12_fault : Cond.instanceMethod yX12_fault ∈ z_F := z_inF (i := 1124) (by decide +kernel) rfl
theorem se_X12_fault : Cond.selects RX12 yX12_fault yX12_fault ∈ z_F := z_inF (i := 1125) (by decide +kernel) rfl
theorem ym_X12_fault : z_ym yX12_fault cX12_fault 2 (some .int) 0 := ⟨z_inF (i := 1126) (by decide +kernel) rfl, z_inF (i := 44) (by decide +kernel) rfl, by decide +kernel, by decide +kernel, by decide +kernel, by decide +kernel, by decide⟩
theorem mlX12_240 : Cond.methodLink RX12 240 yX12_look ∈ z_F := z_inF (i := 1127) (by decide +kernel) rfl
theorem im_X12_look : Cond.instanceMethod yX12_look ∈ z_F := z_inF (i := 1129) (by decide +kernel) rfl
theorem ym_X12_look : z_ym yX12_look cX12_look 1 (some .int) 0 := ⟨z_inF (i := 1130) (by decide +kernel) rfl, z_inF (i := 44) (by decide +kernel) rfl, by decide +kernel, by decide +kernel, by decide +kernel, by decide +kernel, by decide⟩
theorem mlX12_250 : Cond.methodLink RX12 250 yX12_clause ∈ z_F := z_inF (i := 1131) (by decide +kernel) rfl
theorem im_X12_clause : Cond.instanceMethod yX12_clause ∈ z_F := z_inF (i := 1133) (by decide +kernel) rfl
theorem ym_X12_clause : z_ym yX12_clause cX12_clause 5 (some .boolean) 0 := ⟨z_inF (i := 1134) (by decide +kernel) rfl, z_inF (i := 44) (by decide +kernel) rfl, by decide +kernel, by decide +kernel, by decide +kernel, by decide +kernel, by decide⟩
theorem mlX12_244 : Cond.methodLink RX12 244 yX12_isDigit ∈ z_F := z_inF (i := 1135) (by decide +kernel) rfl
theorem sm_X12_isDigit : Cond.static yX12_isDigit ∈ z_F := z_inF (i := 1136) (by decide +kernel) rfl
theorem ym_X12_isDigit : z_ym yX12_isDigit cX12_isDigit 1 (some .boolean) 1 := ⟨z_inF (i := 1137) (by decide +kernel) rfl, z_inF (i := 44) (by decide +kernel) rfl, by decide +kernel, by decide +kernel, by decide +kernel, by decide +kernel, by decide⟩
theorem mlL_63 : Cond.methodLink RL 63 yX12_rules ∈ z_F := z_inF (i := 1138) (by decide +kernel) rfl
theorem im_X12_rules : Cond.instanceMethod yX12_rules ∈ z_F := z_inF (i := 1139) (by decide +kernel) rfl
theorem se_X12_rules : Cond.selects RX12 yX12_rules yX12_rules ∈ z_F := z_inF (i := 1140) (by decide +kernel) rfl
theorem ym_X12_rules : z_ym yX12_rules cX12_rules 2 (some .boolean) 0 := ⟨z_inF (i := 1141) (by decide +kernel) rfl, z_inF (i := 44) (by decide +kernel) rfl, by decide +kernel, by decide +kernel, by decide +kernel, by decide +kernel, by decide⟩
theorem mlX12_254 : Cond.methodLink RX12 254 yX12_fault ∈ z_F := z_inF (i := 1142) (by decide +kernel) rfl
theorem mlL_77 : Cond.methodLink RL 77 yX12_draw ∈ z_F := z_inF (i := 1143) (by decide +kernel) rfl
theorem im_X12_draw : Cond.instanceMethod yX12_draw ∈ z_F := z_inF (i := 1144) (by decide +kernel) rfl
theorem se_X12_draw : Cond.selects RX12 yX12_draw yX12_draw ∈ z_F := z_inF (i := 1145) (by decide +kernel) rfl
theorem ym_X12_draw : z_ym yX12_draw cX12_draw 6 (some .int) 0 := ⟨z_inF (i := 1146) (by decide +kernel) rfl, z_inF (i := 44) (by decide +kernel) rfl, by decide +kernel, by decide +kernel, by decide +kernel, by decide +kernel, by decide⟩
theorem klX12_260 : Cond.constantLong RX12 260 (1000) ∈ lw_tbl := List.mem_of_getElem? (i := 1147) (by decide +kernel)
theorem klX12_262 : Cond.constantLong RX12 262 (999) ∈ lw_tbl := List.mem_of_getElem? (i := 1148) (by decide +kernel)
theorem mlL_85 : Cond.methodLink RL 85 yX12_forge ∈ z_F := z_inF (i := 1149) (by decide +kernel) rfl
theorem im_X12_forge : Cond.instanceMethod yX12_forge ∈ z_F := z_inF (i := 1150) (by decide +kernel) rfl
theorem se_X12_forge : Cond.selects RX12 yX12_forge yX12_forge ∈ z_F := z_inF (i := 1151) (by decide +kernel) rfl
theorem ym_X12_forge : z_ym yX12_forge cX12_forge 4 (some .int) 2 := ⟨z_inF (i := 1152) (by decide +kernel) rfl, z_inF (i := 44) (by decide +kernel) rfl, by decide +kernel, by decide +kernel, by decide +kernel, by decide +kernel, by decide⟩
theorem mlX12_267 : Cond.methodLink RX12 267 yX12_isBar ∈ z_F := z_inF (i := 1153) (by decide +kernel) rfl
theorem im_X12_isBar : Cond.instanceMethod yX12_isBar ∈ z_F := z_inF (i := 1155) (by decide +kernel) rfl
theorem ym_X12_isBar : z_ym yX12_isBar cX12_isBar 2 (some .boolean) 1 := ⟨z_inF (i := 1156) (by decide +kernel) rfl, z_inF (i := 44) (by decide +kernel) rfl, by decide +kernel, by decide +kernel, by decide +kernel, by decide +kernel, by decide⟩
theorem klX12_270 : Cond.constantLong RX12 270 (97) ∈ lw_tbl := List.mem_of_getElem? (i := 1157) (by decide +kernel)
theorem klX12_272 : Cond.constantLong RX12 272 (100) ∈ lw_tbl := List.mem_of_getElem? (i := 1158) (by decide +kernel)
theorem klX12_274 : Cond.constantLong RX12 274 (99) ∈ lw_tbl := List.mem_of_getElem? (i := 1159) (by decide +kernel)
theorem mlX12_276 : Cond.methodLink RX12 276 yX12_sortOf ∈ z_F := z_inF (i := 1160) (by decide +kernel) rfl
theorem im_X12_sortOf : Cond.instanceMethod yX12_sortOf ∈ z_F := z_inF (i := 1162) (by decide +kernel) rfl
theorem ym_X12_sortOf : z_ym yX12_sortOf cX12_sortOf 2 (some .int) 1 := ⟨z_inF (i := 1163) (by decide +kernel) rfl, z_inF (i := 44) (by decide +kernel) rfl, by decide +kernel, by decide +kernel, by decide +kernel, by decide +kernel, by decide⟩
theorem mlL_89 : Cond.methodLink RL 89 yX12_bar ∈ z_F := z_inF (i := 1164) (by decide +kernel) rfl
theorem im_X12_bar : Cond.instanceMethod yX12_bar ∈ z_F := z_inF (i := 1165) (by decide +kernel) rfl
theorem se_X12_bar : Cond.selects RX12 yX12_bar yX12_bar ∈ z_F := z_inF (i := 1166) (by decide +kernel) rfl
theorem ym_X12_bar : z_ym yX12_bar cX12_bar 6 (some .int) 2 := ⟨z_inF (i := 1167) (by decide +kernel) rfl, z_inF (i := 44) (by decide +kernel) rfl, by decide +kernel, by decide +kernel, by decide +kernel, by decide +kernel, by decide⟩
theorem mlL_93 : Cond.methodLink RL 93 yX12_part ∈ z_F := z_inF (i := 1168) (by decide +kernel) rfl
theorem im_X12_part : Cond.instanceMethod yX12_part ∈ z_F := z_inF (i := 1169) (by decide +kernel) rfl
theorem se_X12_part : Cond.selects RX12 yX12_part yX12_part ∈ z_F := z_inF (i := 1170) (by decide +kernel) rfl
theorem ym_X12_part : z_ym yX12_part cX12_part 3 (some .int) 2 := ⟨z_inF (i := 1171) (by decide +kernel) rfl, z_inF (i := 44) (by decide +kernel) rfl, by decide +kernel, by decide +kernel, by decide +kernel, by decide +kernel, by decide⟩
theorem mlL_97 : Cond.methodLink RL 97 yX12_burnt ∈ z_F := z_inF (i := 1172) (by decide +kernel) rfl
theorem im_X12_burnt : Cond.instanceMethod yX12_burnt ∈ z_F := z_inF (i := 1173) (by decide +kernel) rfl
theorem se_X12_burnt : Cond.selects RX12 yX12_burnt yX12_burnt ∈ z_F := z_inF (i := 1174) (by decide +kernel) rfl
theorem ym_X12_burnt : z_ym yX12_burnt cX12_burnt 3 (some .int) 2 := ⟨z_inF (i := 1175) (by decide +kernel) rfl, z_inF (i := 44) (by decide +kernel) rfl, by decide +kernel, by decide +kernel, by decide +kernel, by decide +kernel, by decide⟩
theorem mlL_102 : Cond.methodLink RL 102 yX12_right ∈ z_F := z_inF (i := 1176) (by decide +kernel) rfl
theorem im_X12_right : Cond.instanceMethod yX12_right ∈ z_F := z_inF (i := 1177) (by decide +kernel) rfl
theorem se_X12_right : Cond.selects RX12 yX12_right yX12_right ∈ z_F := z_inF (i := 1178) (by decide +kernel) rfl
theorem ym_X12_right : z_ym yX12_right cX12_right 5 (some .boolean) 4 := ⟨z_inF (i := 1179) (by decide +kernel) rfl, z_inF (i := 44) (by decide +kernel) rfl, by decide +kernel, by decide +kernel, by decide +kernel, by decide +kernel, by decide⟩
theorem mlL_106 : Cond.methodLink RL 106 yX12_pay ∈ z_F := z_inF (i := 1180) (by decide +kernel) rfl
theorem im_X12_pay : Cond.instanceMethod yX12_pay ∈ z_F := z_inF (i := 1181) (by decide +kernel) rfl
theorem se_X12_pay : Cond.selects RX12 yX12_pay yX12_pay ∈ z_F := z_inF (i := 1182) (by decide +kernel) rfl
theorem ym_X12_pay : z_ym yX12_pay cX12_pay 3 (some .int) 2 := ⟨z_inF (i := 1183) (by decide +kernel) rfl, z_inF (i := 44) (by decide +kernel) rfl, by decide +kernel, by decide +kernel, by decide +kernel, by decide +kernel, by decide⟩
theorem mlX12_297 : Cond.methodLink RX12 297 yX12_settle ∈ z_F := z_inF (i := 1184) (by decide +kernel) rfl
theorem im_X12_settle : Cond.instanceMethod yX12_settle ∈ z_F := z_inF (i := 1186) (by decide +kernel) rfl
theorem ym_X12_settle : z_ym yX12_settle cX12_settle 7 (some .int) 1 := ⟨z_inF (i := 1187) (by decide +kernel) rfl, z_inF (i := 44) (by decide +kernel) rfl, by decide +kernel, by decide +kernel, by decide +kernel, by decide +kernel, by decide⟩
theorem mlX12_283 : Cond.methodLink RX12 283 yX12_inForce ∈ z_F := z_inF (i := 1188) (by decide +kernel) rfl
theorem im_X12_inForce : Cond.instanceMethod yX12_inForce ∈ z_F := z_inF (i := 1190) (by decide +kernel) rfl
theorem ym_X12_inForce : z_ym yX12_inForce cX12_inForce 7 (some .int) 3 := ⟨z_inF (i := 1191) (by decide +kernel) rfl, z_inF (i := 44) (by decide +kernel) rfl, by decide +kernel, by decide +kernel, by decide +kernel, by decide +kernel, by decide⟩
theorem mlX12_290 : Cond.methodLink RX12 290 yX12_longer ∈ z_F := z_inF (i := 1192) (by decide +kernel) rfl
theorem sm_X12_longer : Cond.static yX12_longer ∈ z_F := z_inF (i := 1193) (by decide +kernel) rfl
theorem ym_X12_longer : z_ym yX12_longer cX12_longer 3 (some (.array .int)) 1 := ⟨z_inF (i := 1194) (by decide +kernel) rfl, z_inF (i := 44) (by decide +kernel) rfl, by decide +kernel, by decide +kernel, by decide +kernel, by decide +kernel, by decide⟩
theorem mlL_110 : Cond.methodLink RL 110 yX12_again ∈ z_F := z_inF (i := 1195) (by decide +kernel) rfl
theorem im_X12_again : Cond.instanceMethod yX12_again ∈ z_F := z_inF (i := 1196) (by decide +kernel) rfl
theorem se_X12_again : Cond.selects RX12 yX12_again yX12_again ∈ z_F := z_inF (i := 1197) (by decide +kernel) rfl
theorem ym_X12_again : z_ym yX12_again cX12_again 2 (some .int) 1 := ⟨z_inF (i := 1198) (by decide +kernel) rfl, z_inF (i := 44) (by decide +kernel) rfl, by decide +kernel, by decide +kernel, by decide +kernel, by decide +kernel, by decide⟩
theorem mlL_114 : Cond.methodLink RL 114 yX12_line ∈ z_F := z_inF (i := 1199) (by decide +kernel) rfl
theorem im_X12_line : Cond.instanceMethod yX12_line ∈ z_F := z_inF (i := 1200) (by decide +kernel) rfl
theorem se_X12_line : Cond.selects RX12 yX12_line yX12_line ∈ z_F := z_inF (i := 1201) (by decide +kernel) rfl
theorem ym_X12_line : z_ym yX12_line cX12_line 3 (some .int) 2 := ⟨z_inF (i := 1202) (by decide +kernel) rfl, z_inF (i := 44) (by decide +kernel) rfl, by decide +kernel, by decide +kernel, by decide +kernel, by decide +kernel, by decide⟩
theorem mlL_118 : Cond.methodLink RL 118 yX12_coins ∈ z_F := z_inF (i := 1203) (by decide +kernel) rfl
theorem im_X12_coins : Cond.instanceMethod yX12_coins ∈ z_F := z_inF (i := 1204) (by decide +kernel) rfl
theorem se_X12_coins : Cond.selects RX12 yX12_coins yX12_coins ∈ z_F := z_inF (i := 1205) (by decide +kernel) rfl
theorem ym_X12_coins : z_ym yX12_coins cX12_coins 2 (some .int) 1 := ⟨z_inF (i := 1206) (by decide +kernel) rfl, z_inF (i := 44) (by decide +kernel) rfl, by decide +kernel, by decide +kernel, by decide +kernel, by decide +kernel, by decide⟩
theorem mlL_122 : Cond.methodLink RL 122 yX12_order ∈ z_F := z_inF (i := 1207) (by decide +kernel) rfl
theorem im_X12_order : Cond.instanceMethod yX12_order ∈ z_F := z_inF (i := 1208) (by decide +kernel) rfl
theorem se_X12_order : Cond.selects RX12 yX12_order yX12_order ∈ z_F := z_inF (i := 1209) (by decide +kernel) rfl
theorem ym_X12_order : z_ym yX12_order cX12_order 3 (some .int) 2 := ⟨z_inF (i := 1210) (by decide +kernel) rfl, z_inF (i := 44) (by decide +kernel) rfl, by decide +kernel, by decide +kernel, by decide +kernel, by decide +kernel, by decide⟩
theorem mlL_126 : Cond.methodLink RL 126 yX12_clear ∈ z_F := z_inF (i := 1211) (by decide +kernel) rfl
theorem im_X12_clear : Cond.instanceMethod yX12_clear ∈ z_F := z_inF (i := 1212) (by decide +kernel) rfl
theorem se_X12_clear : Cond.selects RX12 yX12_clear yX12_clear ∈ z_F := z_inF (i := 1213) (by decide +kernel) rfl
theorem ym_X12_clear : z_ym yX12_clear cX12_clear 1 none 0 := ⟨z_inF (i := 1214) (by decide +kernel) rfl, z_inF (i := 44) (by decide +kernel) rfl, by decide +kernel, by decide +kernel, by decide +kernel, by decide +kernel, by decide⟩
theorem mlL_130 : Cond.methodLink RL 130 yX12_met ∈ z_F := z_inF (i := 1215) (by decide +kernel) rfl
theorem im_X12_met : Cond.instanceMethod yX12_met ∈ z_F := z_inF (i := 1216) (by decide +kernel) rfl
theorem se_X12_met : Cond.selects RX12 yX12_met yX12_met ∈ z_F := z_inF (i := 1217) (by decide +kernel) rfl
theorem ym_X12_met : z_ym yX12_met cX12_met 2 (some .int) 1 := ⟨z_inF (i := 1218) (by decide +kernel) rfl, z_inF (i := 44) (by decide +kernel) rfl, by decide +kernel, by decide +kernel, by decide +kernel, by decide +kernel, by decide⟩
theorem mlX12_316 : Cond.methodLink RX12 316 yX12_giveAll ∈ z_F := z_inF (i := 1219) (by decide +kernel) rfl
theorem im_X12_giveAll : Cond.instanceMethod yX12_giveAll ∈ z_F := z_inF (i := 1221) (by decide +kernel) rfl
theorem ym_X12_giveAll : z_ym yX12_giveAll cX12_giveAll 5 (some .int) 0 := ⟨z_inF (i := 1222) (by decide +kernel) rfl, z_inF (i := 44) (by decide +kernel) rfl, by decide +kernel, by decide +kernel, by decide +kernel, by decide +kernel, by decide⟩
theorem mlX12_310 : Cond.methodLink RX12 310 yX12_most ∈ z_F := z_inF (i := 1223) (by decide +kernel) rfl
theorem im_X12_most : Cond.instanceMethod yX12_most ∈ z_F := z_inF (i := 1225) (by decide +kernel) rfl
theorem ym_X12_most : z_ym yX12_most cX12_most 5 (some .int) 1 := ⟨z_inF (i := 1226) (by decide +kernel) rfl, z_inF (i := 44) (by decide +kernel) rfl, by decide +kernel, by decide +kernel, by decide +kernel, by decide +kernel, by decide⟩
theorem mlX12_307 : Cond.methodLink RX12 307 yX12_finds ∈ z_F := z_inF (i := 1227) (by decide +kernel) rfl
theorem im_X12_finds : Cond.instanceMethod yX12_finds ∈ z_F := z_inF (i := 1229) (by decide +kernel) rfl
theorem ym_X12_finds : z_ym yX12_finds cX12_finds 5 (some .boolean) 2 := ⟨z_inF (i := 1230) (by decide +kernel) rfl, z_inF (i := 44) (by decide +kernel) rfl, by decide +kernel, by decide +kernel, by decide +kernel, by decide +kernel, by decide⟩
theorem mlX12_303 : Cond.methodLink RX12 303 yX12_fits ∈ z_F := z_inF (i := 1231) (by decide +kernel) rfl
theorem im_X12_fits : Cond.instanceMethod yX12_fits ∈ z_F := z_inF (i := 1233) (by decide +kernel) rfl
theorem ym_X12_fits : z_ym yX12_fits cX12_fits 3 (some .boolean) 2 := ⟨z_inF (i := 1234) (by decide +kernel) rfl, z_inF (i := 44) (by decide +kernel) rfl, by decide +kernel, by decide +kernel, by decide +kernel, by decide +kernel, by decide⟩
theorem mlX12_313 : Cond.methodLink RX12 313 yX12_isGiven ∈ z_F := z_inF (i := 1235) (by decide +kernel) rfl
theorem im_X12_isGiven : Cond.instanceMethod yX12_isGiven ∈ z_F := z_inF (i := 1237) (by decide +kernel) rfl
theorem ym_X12_isGiven : z_ym yX12_isGiven cX12_isGiven 4 (some .boolean) 2 := ⟨z_inF (i := 1238) (by decide +kernel) rfl, z_inF (i := 44) (by decide +kernel) rfl, by decide +kernel, by decide +kernel, by decide +kernel, by decide +kernel, by decide⟩
theorem mlL_134 : Cond.methodLink RL 134 yX12_want ∈ z_F := z_inF (i := 1239) (by decide +kernel) rfl
theorem im_X12_want : Cond.instanceMethod yX12_want ∈ z_F := z_inF (i := 1240) (by decide +kernel) rfl
theorem se_X12_want : Cond.selects RX12 yX12_want yX12_want ∈ z_F := z_inF (i := 1241) (by decide +kernel) rfl
theorem ym_X12_want : z_ym yX12_want cX12_want 2 (some .int) 0 := ⟨z_inF (i := 1242) (by decide +kernel) rfl, z_inF (i := 44) (by decide +kernel) rfl, by decide +kernel, by decide +kernel, by decide +kernel, by decide +kernel, by decide⟩
theorem mlX12_319 : Cond.methodLink RX12 319 yJ6_bitCount_0f7a4 ∈ z_F := z_inF (i := 1243) (by decide +kernel) rfl
theorem mlX12_324 : Cond.methodLink RX12 324 yX12_couldHave ∈ z_F := z_inF (i := 1244) (by decide +kernel) rfl
theorem im_X12_couldHave : Cond.instanceMethod yX12_couldHave ∈ z_F := z_inF (i := 1246) (by decide +kernel) rfl
theorem ym_X12_couldHave : z_ym yX12_couldHave cX12_couldHave 6 (some .int) 1 := ⟨z_inF (i := 1247) (by decide +kernel) rfl, z_inF (i := 44) (by decide +kernel) rfl, by decide +kernel, by decide +kernel, by decide +kernel, by decide +kernel, by decide⟩
theorem mlL_138 : Cond.methodLink RL 138 yX12_ground ∈ z_F := z_inF (i := 1248) (by decide +kernel) rfl
theorem im_X12_ground : Cond.instanceMethod yX12_ground ∈ z_F := z_inF (i := 1249) (by decide +kernel) rfl
theorem se_X12_ground : Cond.selects RX12 yX12_ground yX12_ground ∈ z_F := z_inF (i := 1250) (by decide +kernel) rfl
theorem ym_X12_ground : z_ym yX12_ground cX12_ground 3 (some .int) 2 := ⟨z_inF (i := 1251) (by decide +kernel) rfl, z_inF (i := 44) (by decide +kernel) rfl, by decide +kernel, by decide +kernel, by decide +kernel, by decide +kernel, by decide⟩
theorem mlL_142 : Cond.methodLink RL 142 yX12_count ∈ z_F := z_inF (i := 1252) (by decide +kernel) rfl
theorem im_X12_count : Cond.instanceMethod yX12_count ∈ z_F := z_inF (i := 1253) (by decide +kernel) rfl
theorem se_X12_count : Cond.selects RX12 yX12_count yX12_count ∈ z_F := z_inF (i := 1254) (by decide +kernel) rfl
theorem ym_X12_count : z_ym yX12_count cX12_count 2 (some .int) 1 := ⟨z_inF (i := 1255) (by decide +kernel) rfl, z_inF (i := 44) (by decide +kernel) rfl, by decide +kernel, by decide +kernel, by decide +kernel, by decide +kernel, by decide⟩
theorem se_X11_bogAt : Cond.selects RX11 yX11_bogAt yX11_bogAt ∈ z_F := z_inF (i := 0) (by decide +kernel) rfl
theorem se_X2_open : Cond.selects RX2 yX2_open yX2_open ∈ z_F := z_inF (i := 1) (by decide +kernel) rfl
theorem se_X2_learnWithin : Cond.selects RX2 yX2_learnWithin yX2_learnWithin ∈ z_F := z_inF (i := 2) (by decide +kernel) rfl
theorem se_X6_greatestRest : Cond.selects RX6 yX6_greatestRest yX6_greatestRest ∈ z_F := z_inF (i := 3) (by decide +kernel) rfl
theorem se_X3_reduce : Cond.selects RX3 yX3_reduce yX3_reduce ∈ z_F := z_inF (i := 4) (by decide +kernel) rfl
theorem se_X3_noteScorch : Cond.selects RX3 yX3_noteScorch yX3_noteScorch ∈ z_F := z_inF (i := 5) (by decide +kernel) rfl
theorem se_X11_ironInBloom : Cond.selects RX11 yX11_ironInBloom yX11_ironInBloom ∈ z_F := z_inF (i := 6) (by decide +kernel) rfl
theorem se_X11_barAt : Cond.selects RX11 yX11_barAt yX11_barAt ∈ z_F := z_inF (i := 7) (by decide +kernel) rfl
theorem se_X11_settle : Cond.selects RX11 yX11_settle yX11_settle ∈ z_F := z_inF (i := 8) (by decide +kernel) rfl
theorem se_X8_inForce : Cond.selects RX8 yX8_inForce yX8_inForce ∈ z_F := z_inF (i := 9) (by decide +kernel) rfl
theorem se_X4_grow : Cond.selects RX4 yX4_grow yX4_grow ∈ z_F := z_inF (i := 10) (by decide +kernel) rfl
theorem se_X5_ordersThatFit : Cond.selects RX5 yX5_ordersThatFit yX5_ordersThatFit ∈ z_F := z_inF (i := 11) (by decide +kernel) rfl
theorem se_X5_findBar : Cond.selects RX5 yX5_findBar yX5_findBar ∈ z_F := z_inF (i := 12) (by decide +kernel) rfl
theorem se_X5_handOver : Cond.selects RX5 yX5_handOver yX5_handOver ∈ z_F := z_inF (i := 13) (by decide +kernel) rfl
theorem se_X5_lowerBar : Cond.selects RX5 yX5_lowerBar yX5_lowerBar ∈ z_F := z_inF (i := 14) (by decide +kernel) rfl
theorem se_X5_swapTo : Cond.selects RX5 yX5_swapTo yX5_swapTo ∈ z_F := z_inF (i := 15) (by decide +kernel) rfl
theorem se_X5_barsFor : Cond.selects RX5 yX5_barsFor yX5_barsFor ∈ z_F := z_inF (i := 16) (by decide +kernel) rfl
theorem se_X12_isBog : Cond.selects RX12 yX12_isBog yX12_isBog ∈ z_F := z_inF (i := 17) (by decide +kernel) rfl
theorem se_X12_partBy : Cond.selects RX12 yX12_partBy yX12_partBy ∈ z_F := z_inF (i := 18) (by decide +kernel) rfl
theorem se_X12_partAmong : Cond.selects RX12 yX12_partAmong yX12_partAmong ∈ z_F := z_inF (i := 19) (by decide +kernel) rfl
theorem se_X12_minute : Cond.selects RX12 yX12_minute yX12_minute ∈ z_F := z_inF (i := 20) (by decide +kernel) rfl
theorem se_X12_holds : Cond.selects RX12 yX12_holds yX12_holds ∈ z_F := z_inF (i := 21) (by decide +kernel) rfl
theorem se_X12_look : Cond.selects RX12 yX12_look yX12_look ∈ z_F := z_inF (i := 22) (by decide +kernel) rfl
theorem se_X12_clause : Cond.selects RX12 yX12_clause yX12_clause ∈ z_F := z_inF (i := 23) (by decide +kernel) rfl
theorem se_X12_isBar : Cond.selects RX12 yX12_isBar yX12_isBar ∈ z_F := z_inF (i := 24) (by decide +kernel) rfl
theorem se_X12_sortOf : Cond.selects RX12 yX12_sortOf yX12_sortOf ∈ z_F := z_inF (i := 25) (by decide +kernel) rfl
theorem se_X12_settle : Cond.selects RX12 yX12_settle yX12_settle ∈ z_F := z_inF (i := 26) (by decide +kernel) rfl
theorem se_X12_inForce : Cond.selects RX12 yX12_inForce yX12_inForce ∈ z_F := z_inF (i := 27) (by decide +kernel) rfl
theorem se_X12_giveAll : Cond.selects RX12 yX12_giveAll yX12_giveAll ∈ z_F := z_inF (i := 28) (by decide +kernel) rfl
theorem se_X12_most : Cond.selects RX12 yX12_most yX12_most ∈ z_F := z_inF (i := 29) (by decide +kernel) rfl
theorem se_X12_finds : Cond.selects RX12 yX12_finds yX12_finds ∈ z_F := z_inF (i := 30) (by decide +kernel) rfl
theorem se_X12_fits : Cond.selects RX12 yX12_fits yX12_fits ∈ z_F := z_inF (i := 31) (by decide +kernel) rfl
theorem se_X12_isGiven : Cond.selects RX12 yX12_isGiven yX12_isGiven ∈ z_F := z_inF (i := 32) (by decide +kernel) rfl
theorem se_X12_couldHave : Cond.selects RX12 yX12_couldHave yX12_couldHave ∈ z_F := z_inF (i := 33) (by decide +kernel) rfl
theorem ic_Math : Cond.initialized "java/lang/Math" ∈ z_F := z_inF (i := 46) (by decide +kernel) rfl
theorem ic_System : Cond.initialized "java/lang/System" ∈ z_F := z_inF (i := 49) (by decide +kernel) rfl
theorem ic_Arrays : Cond.initialized "java/util/Arrays" ∈ z_F := z_inF (i := 47) (by decide +kernel) rfl
theorem ic_Integer : Cond.initialized "java/lang/Integer" ∈ z_F := z_inF (i := 51) (by decide +kernel) rfl
theorem nwL_7 : z_NW RL 7 11 17 [vi 0, vn, vi 0, vn, vn, vn, vn, vn, vi 0, vi 0, vn, vn, vi 0, vn, vn, vn, vn] := ⟨_, _, tyX11, rfl, fcX11, tyX11_ok, clL_7, insX11, icX11, fun ad j hj => by
  have := (List.range 17).all_eq_true.mp (show (List.range 17).all (fun j => decide (defaultValue (tyX11 j) = vp_V ([vi 0, vn, vi 0, vn, vn, vn, vn, vn, vi 0, vi 0, vn, vn, vi 0, vn, vn, vn, vn].map (z_cv (fun _ => 0))) j)) = true by decide +kernel) j (List.mem_range.mpr hj)
  exact of_decide_eq_true this, by simp [z_oks, z_okv]⟩
theorem nwX11_9 : z_NW RX11 9 1 6 [vi 0, vi 0, vi 0, vi 0, vi 0, vi 0] := ⟨_, _, tyX1, rfl, fcX1, tyX1_ok, clX11_9, insX1, icX1, fun ad j hj => by
  have := (List.range 6).all_eq_true.mp (show (List.range 6).all (fun j => decide (defaultValue (tyX1 j) = vp_V ([vi 0, vi 0, vi 0, vi 0, vi 0, vi 0].map (z_cv (fun _ => 0))) j)) = true by decide +kernel) j (List.mem_range.mpr hj)
  exact of_decide_eq_true this, by simp [z_oks, z_okv]⟩
theorem nwX11_15 : z_NW RX11 15 10 2 [vn, vn] := ⟨_, _, tyX10, rfl, fcX10, tyX10_ok, clX11_15, insX10, icX10, fun ad j hj => by
  have := (List.range 2).all_eq_true.mp (show (List.range 2).all (fun j => decide (defaultValue (tyX10 j) = vp_V ([vn, vn].map (z_cv (fun _ => 0))) j)) = true by decide +kernel) j (List.mem_range.mpr hj)
  exact of_decide_eq_true this, by simp [z_oks, z_okv]⟩
theorem nwX11_22 : z_NW RX11 22 9 2 [vn, vi 0] := ⟨_, _, tyX9, rfl, fcX9, tyX9_ok, clX11_22, insX9, icX9, fun ad j hj => by
  have := (List.range 2).all_eq_true.mp (show (List.range 2).all (fun j => decide (defaultValue (tyX9 j) = vp_V ([vn, vi 0].map (z_cv (fun _ => 0))) j)) = true by decide +kernel) j (List.mem_range.mpr hj)
  exact of_decide_eq_true this, by simp [z_oks, z_okv]⟩
theorem nwX11_29 : z_NW RX11 29 2 5 [vn, vn, vn, vn, vi 0] := ⟨_, _, tyX2, rfl, fcX2, tyX2_ok, clX11_29, insX2, icX2, fun ad j hj => by
  have := (List.range 5).all_eq_true.mp (show (List.range 5).all (fun j => decide (defaultValue (tyX2 j) = vp_V ([vn, vn, vn, vn, vi 0].map (z_cv (fun _ => 0))) j)) = true by decide +kernel) j (List.mem_range.mpr hj)
  exact of_decide_eq_true this, by simp [z_oks, z_okv]⟩
theorem nwX11_36 : z_NW RX11 36 3 14 [vn, vn, vn, vi 0, vi 0, vi 0, vi 0, vi 0, vi 0, vi 0, vi 0, vi 0, vi 0, vi 0] := ⟨_, _, tyX3, rfl, fcX3, tyX3_ok, clX11_36, insX3, icX3, fun ad j hj => by
  have := (List.range 14).all_eq_true.mp (show (List.range 14).all (fun j => decide (defaultValue (tyX3 j) = vp_V ([vn, vn, vn, vi 0, vi 0, vi 0, vi 0, vi 0, vi 0, vi 0, vi 0, vi 0, vi 0, vi 0].map (z_cv (fun _ => 0))) j)) = true by decide +kernel) j (List.mem_range.mpr hj)
  exact of_decide_eq_true this, by simp [z_oks, z_okv]⟩
theorem nwX11_43 : z_NW RX11 43 0 7 [vn, vn, vi 0, vi 0, vi 0, vi 0, vi 0] := ⟨_, _, tyX0, rfl, fcX0, tyX0_ok, clX11_43, insX0, icX0, fun ad j hj => by
  have := (List.range 7).all_eq_true.mp (show (List.range 7).all (fun j => decide (defaultValue (tyX0 j) = vp_V ([vn, vn, vi 0, vi 0, vi 0, vi 0, vi 0].map (z_cv (fun _ => 0))) j)) = true by decide +kernel) j (List.mem_range.mpr hj)
  exact of_decide_eq_true this, by simp [z_oks, z_okv]⟩
theorem nwX11_49 : z_NW RX11 49 8 5 [vn, vn, vn, vn, vi 0] := ⟨_, _, tyX8, rfl, fcX8, tyX8_ok, clX11_49, insX8, icX8, fun ad j hj => by
  have := (List.range 5).all_eq_true.mp (show (List.range 5).all (fun j => decide (defaultValue (tyX8 j) = vp_V ([vn, vn, vn, vn, vi 0].map (z_cv (fun _ => 0))) j)) = true by decide +kernel) j (List.mem_range.mpr hj)
  exact of_decide_eq_true this, by simp [z_oks, z_okv]⟩
theorem nwX11_56 : z_NW RX11 56 7 4 [vi 0, vi 0, vi 0, vn] := ⟨_, _, tyX7, rfl, fcX7, tyX7_ok, clX11_56, insX7, icX7, fun ad j hj => by
  have := (List.range 4).all_eq_true.mp (show (List.range 4).all (fun j => decide (defaultValue (tyX7 j) = vp_V ([vi 0, vi 0, vi 0, vn].map (z_cv (fun _ => 0))) j)) = true by decide +kernel) j (List.mem_range.mpr hj)
  exact of_decide_eq_true this, by simp [z_oks, z_okv]⟩
theorem nwX11_62 : z_NW RX11 62 4 6 [vn, vn, vn, vn, vn, vi 0] := ⟨_, _, tyX4, rfl, fcX4, tyX4_ok, clX11_62, insX4, icX4, fun ad j hj => by
  have := (List.range 6).all_eq_true.mp (show (List.range 6).all (fun j => decide (defaultValue (tyX4 j) = vp_V ([vn, vn, vn, vn, vn, vi 0].map (z_cv (fun _ => 0))) j)) = true by decide +kernel) j (List.mem_range.mpr hj)
  exact of_decide_eq_true this, by simp [z_oks, z_okv]⟩
theorem nwX11_69 : z_NW RX11 69 5 10 [vn, vn, vn, vi 0, vn, vn, vn, vn, vn, vi 0] := ⟨_, _, tyX5, rfl, fcX5, tyX5_ok, clX11_69, insX5, icX5, fun ad j hj => by
  have := (List.range 10).all_eq_true.mp (show (List.range 10).all (fun j => decide (defaultValue (tyX5 j) = vp_V ([vn, vn, vn, vi 0, vn, vn, vn, vn, vn, vi 0].map (z_cv (fun _ => 0))) j)) = true by decide +kernel) j (List.mem_range.mpr hj)
  exact of_decide_eq_true this, by simp [z_oks, z_okv]⟩
theorem nwX11_76 : z_NW RX11 76 6 2 [vn, vn] := ⟨_, _, tyX6, rfl, fcX6, tyX6_ok, clX11_76, insX6, icX6, fun ad j hj => by
  have := (List.range 2).all_eq_true.mp (show (List.range 2).all (fun j => decide (defaultValue (tyX6 j) = vp_V ([vn, vn].map (z_cv (fun _ => 0))) j)) = true by decide +kernel) j (List.mem_range.mpr hj)
  exact of_decide_eq_true this, by simp [z_oks, z_okv]⟩
theorem nwL_10 : z_NW RL 10 12 69 [vi 0, vi 0, vi 0, vi 0, vi 0, vi 0, vi 0, vi 0, vn, vn, vn, vn, vn, vn, vn, vn, vn, vn, vn, vn, vn, vn, vi 0, vi 0, vi 0, vi 0, vi 0, vi 0, vi 0, vi 0, vi 0, vn, vi 0, vi 0, vi 0, vi 0, vn, vn, vn, vn, vn, vn, vn, vn, vn, vn, vn, vn, vn, vn, vn, vn, vn, vn, vn, vn, vn, vn, vn, vn, vn, vn, vn, vn, vn, vn, vn, vn, vn] := ⟨_, _, tyX12, rfl, fcX12, tyX12_ok, clL_10, insX12, icX12, fun ad j hj => by
  have := (List.range 69).all_eq_true.mp (show (List.range 69).all (fun j => decide (defaultValue (tyX12 j) = vp_V ([vi 0, vi 0, vi 0, vi 0, vi 0, vi 0, vi 0, vi 0, vn, vn, vn, vn, vn, vn, vn, vn, vn, vn, vn, vn, vn, vn, vi 0, vi 0, vi 0, vi 0, vi 0, vi 0, vi 0, vi 0, vi 0, vn, vi 0, vi 0, vi 0, vi 0, vn, vn, vn, vn, vn, vn, vn, vn, vn, vn, vn, vn, vn, vn, vn, vn, vn, vn, vn, vn, vn, vn, vn, vn, vn, vn, vn, vn, vn, vn, vn, vn, vn].map (z_cv (fun _ => 0))) j)) = true by decide +kernel) j (List.mem_range.mpr hj)
  exact of_decide_eq_true this, by simp [z_oks, z_okv]⟩
end
section
/-! helpers of the walks -/
theorem z_okv_no {E0 : z_T → Prop} {w : z_w} (he : ∀ t, ¬ E0 t) {v : z_v} (h : z_okv E0 w v) : z_okv (fun _ => False) w v := by
  match v, h with
  | .inl _, _ => trivial
  | .inr (.inl _), _ => trivial
  | .inr (.inr none), _ => trivial
  | .inr (.inr (some t)), hv => exact hv.imp id (he t)
theorem z_some_of {w : z_w} {t : z_T} {c : z_c} (h : w t = some c) : w t ≠ none := by rw [h]; simp
/-- a truth as a number -/
def z_b (p : Prop) [Decidable p] : Int32 := if p then 1 else 0
theorem z_b1 {p : Prop} [Decidable p] (h : p) : z_b p = 1 := if_pos h
theorem z_b0 {p : Prop} [Decidable p] (h : ¬ p) : z_b p = 0 := if_neg h
theorem z_b_iff {p : Prop} [Decidable p] : z_b p = 1 ↔ p := by
  by_cases h : p
  · rw [z_b1 h]; simp [h]
  · rw [z_b0 h]; simp [h]
theorem z_b_iff0 {p : Prop} [Decidable p] : z_b p = 0 ↔ ¬ p := by
  by_cases h : p
  · rw [z_b1 h]; simp [h]
  · rw [z_b0 h]; simp [h]
theorem z_le {a b : Int32} : a ≤ b ↔ a.toInt ≤ b.toInt := Int32.le_iff_toInt_le
theorem z_lt {a b : Int32} : a < b ↔ a.toInt < b.toInt := Int32.lt_iff_toInt_lt
theorem z_ie {a b : Int32} : a = b ↔ a.toInt = b.toInt := Int32.toInt_inj.symm
/-- the sum of a row, as ints add -/
def z_sum (f : Nat → Int32) : Nat → Int32
  | 0 => 0
  | n + 1 => z_sum f n + f n
theorem z_e1 {a b : Int32} (h : a = b) : (some (vi a) : Option z_v) = some (vi b) := by rw [h]
theorem z_el {a b : Int64} (h : a = b) : (some (vl a) : Option z_v) = some (vl b) := by rw [h]
theorem z_up (i : Nat) : nI i + 1 = nI (i + 1) := nI_1 i
theorem z_ret1 {p : Prop} [Decidable p] (h : p) : (some (vi 1) : Option z_v) = some (vi (z_b p)) := by rw [z_b1 h]
theorem z_ret0 {p : Prop} [Decidable p] (h : ¬ p) : (some (vi 0) : Option z_v) = some (vi (z_b p)) := by rw [z_b0 h]
theorem z_arrV {c : ClassId} {n : Nat} {f g : Nat → Value} (h : ∀ j, j < n → f j = g j) : arrV c n f = arrV c n g := by
  have e : (fun j : Fin n => f j.val) = fun j : Fin n => g j.val := funext fun j => h j.val j.isLt
  unfold arrV
  rw [e]
/-- a row of numbers by another one that is the same as far as it goes -/
theorem z_cong {X : z_X} {kC kS : Nat} {w : z_w} {pc : Nat} {L : List (Nat × z_v)} {st : List z_v} {t : z_T} {k n : Nat} {f g : Nat → Int32} (hw : w t = some (.inl (k, n, .inl f))) (hfg : ∀ j, j < n → f j = g j) (kk : z_V X kC kS (z_set w t (.inl (k, n, .inl g))) pc L st) : z_V X kC kS w pc L st := fun ad ts H locs ls cells slots ⟨h1, h2, h3, h4, h5, h6, h7, h8⟩ => by
  obtain ⟨i, hi, he⟩ := h2.find hw
  have hm : ∀ q, w q ≠ none → z_set w t (.inl (k, n, .inl g)) q ≠ none := fun _ hq => z_set_some hq
  have e : vp_cell (x_dA X k) (n, .inl f) = vp_cell (x_dA X k) (n, .inl g) := by
    rw [vp_cell_i, vp_cell_i]
    exact z_arrV (fun j hj => by rw [hfg j hj])
  have hat : va_at (x_D X) vwCl (ad t, z_ce (x_dA X) ad (.inl (k, n, .inl g))) H := by
    have := h2.2.2.1 i _ he
    exact Eq.trans this (congrArg some e)
  exact kk ad ts H locs ls cells slots ⟨h1, h2.put (c := .inl (k, n, .inl g)) hi trivial (h2.2.2.1.set h2.2.2.2.1 he hat (fun _ _ => rfl)) (h2.2.2.2.1.set he), h3, fun q hq => (h4 q hq).imp (hm q) id, z_okl_mono hm h5, z_oks_mono hm h6, h7, h8⟩
theorem z_congL {X : z_X} {kC kS : Nat} {w : z_w} {pc : Nat} {L : List (Nat × z_v)} {st : List z_v} {t : z_T} {k n : Nat} {f g : Nat → Int64} (hw : w t = some (.inl (k, n, .inr (.inl f)))) (hfg : ∀ j, j < n → f j = g j) (kk : z_V X kC kS (z_set w t (.inl (k, n, .inr (.inl g)))) pc L st) : z_V X kC kS w pc L st := fun ad ts H locs ls cells slots ⟨h1, h2, h3, h4, h5, h6, h7, h8⟩ => by
  obtain ⟨i, hi, he⟩ := h2.find hw
  have hm : ∀ q, w q ≠ none → z_set w t (.inl (k, n, .inr (.inl g))) q ≠ none := fun _ hq => z_set_some hq
  have e : vp_cell (x_dA X k) (n, .inr (.inl f)) = vp_cell (x_dA X k) (n, .inr (.inl g)) := by
    rw [vp_cell_l, vp_cell_l]
    exact z_arrV (fun j hj => by rw [hfg j hj])
  have hat : va_at (x_D X) vwCl (ad t, z_ce (x_dA X) ad (.inl (k, n, .inr (.inl g)))) H := by
    have := h2.2.2.1 i _ he
    exact Eq.trans this (congrArg some e)
  exact kk ad ts H locs ls cells slots ⟨h1, h2.put (c := .inl (k, n, .inr (.inl g))) hi trivial (h2.2.2.1.set h2.2.2.2.1 he hat (fun _ _ => rfl)) (h2.2.2.2.1.set he), h3, fun q hq => (h4 q hq).imp (hm q) id, z_okl_mono hm h5, z_oks_mono hm h6, h7, h8⟩
theorem z_skip {w : z_w} {t q : z_T} {c : z_c} {o : Option z_c} (e : z_eq q t = false) (h : w q = o) : z_set w t c q = o := by
  unfold z_set
  rw [e]
  exact h
theorem z_t {C A B : Prop} [Decidable C] (h : C) (a : A) : if C then A else B := by rw [if_pos h]; exact a
theorem z_f {C A B : Prop} [Decidable C] (h : ¬ C) (b : B) : if C then A else B := by rw [if_neg h]; exact b
/-- an index that was looked at -/
theorem z_ixc {x : Int32} {n : Nat} (h0 : ¬ x < 0) (h1 : ¬ nI n ≤ x) (hn : n < 2 ^ 31) : z_ix x x.toNatClampNeg n := by
  obtain ⟨j, hj, rfl⟩ := nI_of h0
  have h2 : ¬ n ≤ j := fun q => h1 ((nI_leI hn hj).mpr q)
  have e := z_ixn (j := j) (n := n) (by omega) hn
  exact ⟨e.1, rfl⟩
theorem z_ixn2 {x : Int32} {j n : Nat} (h : z_ix x j n) : j < n := by
  have := h.1
  have e := h.2
  unfold vp_in at this
  omega
theorem z_ixlt {x : Int32} {n : Nat} (h0 : ¬ x < 0) (h1 : ¬ nI n ≤ x) (hn : n < 2 ^ 31) : x.toNatClampNeg < n := z_ixn2 (z_ixc h0 h1 hn)
theorem z_eqnI {x : Int32} (h0 : ¬ x < 0) : x = nI x.toNatClampNeg := by
  obtain ⟨j, hj, rfl⟩ := nI_of h0
  rw [nI_clamp hj]
theorem z_nIi {n : Nat} (h : n < 2 ^ 31) : (nI n).toInt = n := nI_toInt h
theorem z_clampI (x : Int32) (h : 0 ≤ x.toInt) : (x.toNatClampNeg : Int) = x.toInt := by
  have h0 : ¬ x < 0 := by rw [z_lt]; have : (0 : Int32).toInt = 0 := by decide
                          omega
  obtain ⟨j, hj, rfl⟩ := nI_of h0
  rw [nI_clamp hj, nI_toInt hj]
/-- one more in a row -/
theorem z_upd_fill {f : Nat → Int32} {i : Nat} {v : Int32} : upd (fun k => if k < i then v else f k) i v = fun k => if k < i + 1 then v else f k := by
  funext k
  simp only [upd]
  by_cases h : k = i
  · subst h; simp
  · by_cases h2 : k < i
    · simp [h, h2, show k < i + 1 by omega]
    · simp [h, h2, show ¬ k < i + 1 by omega]
end
section
/-! leaves: contracts of the small methods -/
set_option maxHeartbeats 4000000 in
set_option maxRecDepth 100000 in
theorem m_X11_within (G : z_G) (w : z_w) (x lo hi : Int32) : z_M G yX11_within cX11_within 3 (some .boolean) 1 (0) (0) [vi x, vi lo, vi hi] w (fun r w1 => r = some (vi (z_b (lo ≤ x ∧ x ≤ hi))) ∧ w1 = w) := by
  refine z_met ym_X11_within (by decide) ⟨Nat.le_of_ble_eq_true rfl, Nat.le_of_ble_eq_true rfl⟩ (fun X hG hn hmc hms hin h hr => ?_)
  have he := hr.2.2.2.2.2.1
  refine z_iload_n h dX11_within_0 rfl ?_
  refine z_iload_n h dX11_within_1 rfl ?_
  refine z_icmp_lt h dX11_within_2 14 (by decide) (fun c_1 => ?_) (fun c_1 => ?_)
  · skip
    refine z_iconst (v := 0) h dX11_within_14 (by decide) ?_
    exact z_zret h dX11_within_15 hr rfl (by first | exact ⟨z_ret1 (by simp only [z_lt, z_le, z_ie] at *; omega), rfl⟩ | exact ⟨z_ret0 (by simp only [z_lt, z_le, z_ie] at *; omega), rfl⟩)
  · skip
    refine z_iload_n h dX11_within_5 rfl ?_
    refine z_iload_n h dX11_within_6 rfl ?_
    refine z_icmp_gt h dX11_within_7 14 (by decide) (fun c_2 => ?_) (fun c_2 => ?_)
    · skip
      refine z_iconst (v := 0) h dX11_within_14 (by decide) ?_
      exact z_zret h dX11_within_15 hr rfl (by first | exact ⟨z_ret1 (by simp only [z_lt, z_le, z_ie] at *; omega), rfl⟩ | exact ⟨z_ret0 (by simp only [z_lt, z_le, z_ie] at *; omega), rfl⟩)
    · skip
      refine z_iconst (v := 1) h dX11_within_10 (by decide) ?_
      refine z_goto h dX11_within_11 15 (by decide) ?_
      exact z_zret h dX11_within_15 hr rfl (by first | exact ⟨z_ret1 (by simp only [z_lt, z_le, z_ie] at *; omega), rfl⟩ | exact ⟨z_ret0 (by simp only [z_lt, z_le, z_ie] at *; omega), rfl⟩)
set_option maxHeartbeats 4000000 in
set_option maxRecDepth 100000 in
theorem m_X12_in (G : z_G) (w : z_w) (x lo hi : Int32) : z_M G yX12_in cX12_in 3 (some .boolean) 1 (0) (0) [vi x, vi lo, vi hi] w (fun r w1 => r = some (vi (z_b (lo ≤ x ∧ x ≤ hi))) ∧ w1 = w) := by
  refine z_met ym_X12_in (by decide) ⟨Nat.le_of_ble_eq_true rfl, Nat.le_of_ble_eq_true rfl⟩ (fun X hG hn hmc hms hin h hr => ?_)
  have he := hr.2.2.2.2.2.1
  refine z_iload_n h dX12_in_0 rfl ?_
  refine z_iload_n h dX12_in_1 rfl ?_
  refine z_icmp_lt h dX12_in_2 14 (by decide) (fun c_1 => ?_) (fun c_1 => ?_)
  · skip
    refine z_iconst (v := 0) h dX12_in_14 (by decide) ?_
    exact z_zret h dX12_in_15 hr rfl (by first | exact ⟨z_ret1 (by simp only [z_lt, z_le, z_ie] at *; omega), rfl⟩ | exact ⟨z_ret0 (by simp only [z_lt, z_le, z_ie] at *; omega), rfl⟩)
  · skip
    refine z_iload_n h dX12_in_5 rfl ?_
    refine z_iload_n h dX12_in_6 rfl ?_
    refine z_icmp_gt h dX12_in_7 14 (by decide) (fun c_2 => ?_) (fun c_2 => ?_)
    · skip
      refine z_iconst (v := 0) h dX12_in_14 (by decide) ?_
      exact z_zret h dX12_in_15 hr rfl (by first | exact ⟨z_ret1 (by simp only [z_lt, z_le, z_ie] at *; omega), rfl⟩ | exact ⟨z_ret0 (by simp only [z_lt, z_le, z_ie] at *; omega), rfl⟩)
    · skip
      refine z_iconst (v := 1) h dX12_in_10 (by decide) ?_
      refine z_goto h dX12_in_11 15 (by decide) ?_
      exact z_zret h dX12_in_15 hr rfl (by first | exact ⟨z_ret1 (by simp only [z_lt, z_le, z_ie] at *; omega), rfl⟩ | exact ⟨z_ret0 (by simp only [z_lt, z_le, z_ie] at *; omega), rfl⟩)
set_option maxHeartbeats 4000000 in
set_option maxRecDepth 100000 in
theorem m_X11_sumOf (G : z_G) (w : z_w) (t : z_T) (n : Nat) (f : Nat → Int32) (hw : w t = some (z_ia n f)) (hb : n < 2 ^ 31) : z_M G yX11_sumOf cX11_sumOf 3 (some .int) 1 (0) (0) [vr t] w (fun r w1 => r = some (vi (z_sum f n)) ∧ w1 = w) := by
  refine z_met ym_X11_sumOf (by decide) ⟨Nat.le_of_ble_eq_true rfl, Nat.le_of_ble_eq_true rfl⟩ (fun X hG hn hmc hms hin h hr => ?_)
  have he := hr.2.2.2.2.2.1
  refine z_iconst (v := 0) h dX11_sumOf_0 (by decide) ?_
  refine z_istore_n h dX11_sumOf_1 (by rw [hn]; decide) ?_
  refine z_iconst (v := 0) h dX11_sumOf_2 (by decide) ?_
  refine z_istore_n h dX11_sumOf_3 (by rw [hn]; decide) ?_
  have loop_4 : ∀ (n_ : Nat) (i : Nat), i ≤ n → n + 1 ≤ i + n_ → z_V X 0 0 w 4 [(0, vr t), (1, vi (z_sum f i)), (2, vi (nI i))] [] := by
    intro n_
    induction n_ with
    | zero => intros; omega
    | succ n_ ih_4 =>
      intro i hi hN
      refine z_iload_n h dX11_sumOf_4 rfl ?_
      refine z_aload_n h dX11_sumOf_5 rfl ?_
      refine z_alen h dX11_sumOf_6 (by first | assumption | rfl | (repeat (first | exact z_set_self _ _ _ | assumption | refine z_skip rfl ?_))) (by decide) ?_
      refine z_icmp_ge h dX11_sumOf_7 22 (by decide) (fun c_1 => ?_) (fun c_1 => ?_)
      · skip
        have e1 : n ≤ i := (nI_leI (by omega) (by omega)).mp c_1
        have e2 : i = n := by omega
        subst e2
        refine z_iload_n h dX11_sumOf_22 rfl ?_
        exact z_iret h dX11_sumOf_23 hr (⟨rfl, rfl⟩)
      · skip
        have e1 : ¬ n ≤ i := fun q => c_1 ((nI_leI (by omega) (by omega)).mpr q)
        refine z_iload_n h dX11_sumOf_10 rfl ?_
        refine z_aload_n h dX11_sumOf_11 rfl ?_
        refine z_iload_n h dX11_sumOf_12 rfl ?_
        refine z_iald h dX11_sumOf_13 (by first | assumption | rfl | (repeat (first | exact z_set_self _ _ _ | assumption | refine z_skip rfl ?_))) (by first | assumption | exact z_ixn (by omega) (by omega)) ?_
        refine z_iadd h dX11_sumOf_14 ?_
        refine z_istore_n h dX11_sumOf_15 (by rw [hn]; decide) ?_
        refine z_iinc (v := 1) h dX11_sumOf_16 rfl (by decide) (by rw [hn]; decide) ?_
        refine z_goto h dX11_sumOf_19 4 (by decide) ?_
        refine z_loc [(0, vr t), (1, vi (z_sum f (i + 1))), (2, vi (nI (i + 1)))] ⟨rfl, rfl, congrArg (fun z => some (vi z)) (z_up i), trivial⟩ ?_
        exact ih_4 (i + 1) (by omega) (by omega)
  exact z_loc [(0, vr t), (1, vi 0), (2, vi 0)] ⟨rfl, rfl, rfl, trivial⟩ (loop_4 (n + 1) 0 (by omega) (by omega))
set_option maxHeartbeats 4000000 in
set_option maxRecDepth 100000 in
theorem m_X12_sum (G : z_G) (w : z_w) (t : z_T) (n : Nat) (f : Nat → Int32) (hw : w t = some (z_ia n f)) (hb : n < 2 ^ 31) : z_M G yX12_sum cX12_sum 3 (some .int) 1 (0) (0) [vr t] w (fun r w1 => r = some (vi (z_sum f n)) ∧ w1 = w) := by
  refine z_met ym_X12_sum (by decide) ⟨Nat.le_of_ble_eq_true rfl, Nat.le_of_ble_eq_true rfl⟩ (fun X hG hn hmc hms hin h hr => ?_)
  have he := hr.2.2.2.2.2.1
  refine z_iconst (v := 0) h dX12_sum_0 (by decide) ?_
  refine z_istore_n h dX12_sum_1 (by rw [hn]; decide) ?_
  refine z_iconst (v := 0) h dX12_sum_2 (by decide) ?_
  refine z_istore_n h dX12_sum_3 (by rw [hn]; decide) ?_
  have loop_4 : ∀ (n_ : Nat) (i : Nat), i ≤ n → n + 1 ≤ i + n_ → z_V X 0 0 w 4 [(0, vr t), (1, vi (z_sum f i)), (2, vi (nI i))] [] := by
    intro n_
    induction n_ with
    | zero => intros; omega
    | succ n_ ih_4 =>
      intro i hi hN
      refine z_iload_n h dX12_sum_4 rfl ?_
      refine z_aload_n h dX12_sum_5 rfl ?_
      refine z_alen h dX12_sum_6 (by first | assumption | rfl | (repeat (first | exact z_set_self _ _ _ | assumption | refine z_skip rfl ?_))) (by decide) ?_
      refine z_icmp_ge h dX12_sum_7 22 (by decide) (fun c_1 => ?_) (fun c_1 => ?_)
      · skip
        have e1 : n ≤ i := (nI_leI (by omega) (by omega)).mp c_1
        have e2 : i = n := by omega
        subst e2
        refine z_iload_n h dX12_sum_22 rfl ?_
        exact z_iret h dX12_sum_23 hr (⟨rfl, rfl⟩)
      · skip
        have e1 : ¬ n ≤ i := fun q => c_1 ((nI_leI (by omega) (by omega)).mpr q)
        refine z_iload_n h dX12_sum_10 rfl ?_
        refine z_aload_n h dX12_sum_11 rfl ?_
        refine z_iload_n h dX12_sum_12 rfl ?_
        refine z_iald h dX12_sum_13 (by first | assumption | rfl | (repeat (first | exact z_set_self _ _ _ | assumption | refine z_skip rfl ?_))) (by first | assumption | exact z_ixn (by omega) (by omega)) ?_
        refine z_iadd h dX12_sum_14 ?_
        refine z_istore_n h dX12_sum_15 (by rw [hn]; decide) ?_
        refine z_iinc (v := 1) h dX12_sum_16 rfl (by decide) (by rw [hn]; decide) ?_
        refine z_goto h dX12_sum_19 4 (by decide) ?_
        refine z_loc [(0, vr t), (1, vi (z_sum f (i + 1))), (2, vi (nI (i + 1)))] ⟨rfl, rfl, congrArg (fun z => some (vi z)) (z_up i), trivial⟩ ?_
        exact ih_4 (i + 1) (by omega) (by omega)
  exact z_loc [(0, vr t), (1, vi 0), (2, vi 0)] ⟨rfl, rfl, rfl, trivial⟩ (loop_4 (n + 1) 0 (by omega) (by omega))
set_option maxHeartbeats 4000000 in
set_option maxRecDepth 100000 in
theorem m_X11_itemOf (G : z_G) (w : z_w) (t : z_T) (n : Nat) (f : Nat → Int32) (x : Int32) (hw : w t = some (z_ia n f)) (hb : n < 2 ^ 31) : z_M G yX11_itemOf cX11_itemOf 2 (some .int) 1 (0) (0) [vr t, vi x] w (fun r w1 => r = some (vi (if ¬ x < 0 ∧ ¬ nI n ≤ x then f x.toNatClampNeg else 0)) ∧ w1 = w) := by
  refine z_met ym_X11_itemOf (by decide) ⟨Nat.le_of_ble_eq_true rfl, Nat.le_of_ble_eq_true rfl⟩ (fun X hG hn hmc hms hin h hr => ?_)
  have he := hr.2.2.2.2.2.1
  refine z_iload_n h dX11_itemOf_0 rfl ?_
  refine z_if_lt h dX11_itemOf_1 16 (by decide) (fun c_1 => ?_) (fun c_1 => ?_)
  · skip
    refine z_iconst (v := 0) h dX11_itemOf_16 (by decide) ?_
    exact z_iret h dX11_itemOf_17 hr (⟨z_e1 (if_neg (fun q => q.1 c_1)).symm, rfl⟩)
  · skip
    refine z_iload_n h dX11_itemOf_4 rfl ?_
    refine z_aload_n h dX11_itemOf_5 rfl ?_
    refine z_alen h dX11_itemOf_6 (by first | assumption | rfl | (repeat (first | exact z_set_self _ _ _ | assumption | refine z_skip rfl ?_))) (by decide) ?_
    refine z_icmp_ge h dX11_itemOf_7 16 (by decide) (fun c_2 => ?_) (fun c_2 => ?_)
    · skip
      refine z_iconst (v := 0) h dX11_itemOf_16 (by decide) ?_
      exact z_iret h dX11_itemOf_17 hr (⟨z_e1 (if_neg (fun q => q.2 c_2)).symm, rfl⟩)
    · skip
      refine z_aload_n h dX11_itemOf_10 rfl ?_
      refine z_iload_n h dX11_itemOf_11 rfl ?_
      refine z_iald h dX11_itemOf_12 (by first | assumption | rfl | (repeat (first | exact z_set_self _ _ _ | assumption | refine z_skip rfl ?_))) (z_ixc c_1 c_2 hb) ?_
      refine z_goto h dX11_itemOf_13 17 (by decide) ?_
      exact z_iret h dX11_itemOf_17 hr (⟨z_e1 (if_pos ⟨c_1, c_2⟩).symm, rfl⟩)
set_option maxHeartbeats 4000000 in
set_option maxRecDepth 100000 in
theorem m_J7_fill_53178 (G : z_G) (w : z_w) (t : z_T) (n : Nat) (f : Nat → Int32) (v : Int32) (hw : w t = some (z_ia n f)) (hb : n < 2 ^ 31) : z_M G yJ7_fill_53178 cJ7_fill_53178 4 none 1 (0) (0) [vr t, vi v] w (fun r w1 => r = none ∧ w1 = z_set w t (z_ia n (fun _ => v))) := by
  refine z_met ym_J7_fill_53178 (by decide) ⟨Nat.le_of_ble_eq_true rfl, Nat.le_of_ble_eq_true rfl⟩ (fun X hG hn hmc hms hin h hr => ?_)
  have he := hr.2.2.2.2.2.1
  refine z_iconst (v := 0) h dJ7_fill_53178_0 (by decide) ?_
  refine z_istore_n h dJ7_fill_53178_1 (by rw [hn]; decide) ?_
  refine z_aload_n h dJ7_fill_53178_2 rfl ?_
  refine z_alen h dJ7_fill_53178_3 (by first | assumption | rfl | (repeat (first | exact z_set_self _ _ _ | assumption | refine z_skip rfl ?_))) (by decide) ?_
  refine z_istore_n h dJ7_fill_53178_4 (by rw [hn]; decide) ?_
  have loop_5 : ∀ (n_ : Nat) (i : Nat) (w1 : z_w), i ≤ n → n + 1 ≤ i + n_ → w1 t = some (z_ia n (fun k => if k < i then v else f k)) → z_fr [t] w w1 → z_V X 0 0 w1 5 [(0, vr t), (1, vi v), (2, vi (nI i)), (3, vi (nI n))] [] := by
    intro n_
    induction n_ with
    | zero => intros; omega
    | succ n_ ih_5 =>
      intro i w1 hi hN hw1 hfr
      refine z_iload_n h dJ7_fill_53178_5 rfl ?_
      refine z_iload_n h dJ7_fill_53178_6 rfl ?_
      refine z_icmp_ge h dJ7_fill_53178_7 20 (by decide) (fun c_1 => ?_) (fun c_1 => ?_)
      · skip
        have e1 : n ≤ i := (nI_leI (by omega) (by omega)).mp c_1
        have e2 : i = n := by omega
        subst e2
        refine z_cong (g := fun _ => v) hw1 (fun j hj => by simp [hj]) ?_
        exact z_vret h dJ7_fill_53178_20 hr (⟨rfl, by
          funext q
          by_cases e : q = t
          · subst e; rw [z_set_self, z_set_self]
          · rw [z_set_ne e, z_set_ne e, hfr q (by simpa using e)]⟩)
      · skip
        have e1 : ¬ n ≤ i := fun q => c_1 ((nI_leI (by omega) (by omega)).mpr q)
        refine z_aload_n h dJ7_fill_53178_10 rfl ?_
        refine z_iload_n h dJ7_fill_53178_11 rfl ?_
        refine z_iload_n h dJ7_fill_53178_12 rfl ?_
        refine z_iast h dJ7_fill_53178_13 (by first | assumption | rfl | (repeat (first | exact z_set_self _ _ _ | assumption | refine z_skip rfl ?_))) (by first | assumption | exact z_ixn (by omega) (by omega)) ?_
        refine z_iinc (v := 1) h dJ7_fill_53178_14 rfl (by decide) (by rw [hn]; decide) ?_
        refine z_goto h dJ7_fill_53178_17 5 (by decide) ?_
        refine z_loc [(0, vr t), (1, vi v), (2, vi (nI (i + 1))), (3, vi (nI n))] ⟨rfl, rfl, congrArg (fun z => some (vi z)) (z_up i), rfl, trivial⟩ ?_
        exact ih_5 (i + 1) _ (by omega) (by omega) (by rw [z_set_self, z_upd_fill]) (hfr.set (by simp))
  exact z_loc [(0, vr t), (1, vi v), (2, vi 0), (3, vi (nI n))] ⟨rfl, rfl, rfl, rfl, trivial⟩ (loop_5 (n + 1) 0 w (by omega) (by omega) (by rw [hw]; simp) z_fr.rf)
set_option maxHeartbeats 4000000 in
set_option maxRecDepth 100000 in
theorem m_X0_setIron (G : z_G) (w : z_w) (b : Nat) (ds di le gr hes : Int32) (hw : w (18, b) = some (z_ob 0 [vr (19, b), vr (20, b), vi ds, vi di, vi le, vi gr, vi hes])) (x y : Int32) : z_M G yX0_setIron cX0_setIron 3 none 1 (0) (0) [vr (18, b), vi x, vi y] w (fun r w1 => r = none ∧ w1 = z_set w (18, b) (z_ob 0 [vr (19, b), vr (20, b), vi ds, vi di, vi x, vi y, vi hes])) := by
  refine z_met ym_X0_setIron (by decide) ⟨Nat.le_of_ble_eq_true rfl, Nat.le_of_ble_eq_true rfl⟩ (fun X hG hn hmc hms hin h hr => ?_)
  have he := hr.2.2.2.2.2.1
  refine z_aload_n h dX0_setIron_0 rfl ?_
  refine z_iload_n h dX0_setIron_1 rfl ?_
  refine z_put h dX0_setIron_2 he flX0_25 (by first | assumption | rfl | (repeat (first | exact z_set_self _ _ _ | assumption | refine z_skip rfl ?_))) (Nat.le_of_ble_eq_true rfl) (z_fit_i _) ?_
  refine z_aload_n h dX0_setIron_5 rfl ?_
  refine z_iload_n h dX0_setIron_6 rfl ?_
  refine z_put h dX0_setIron_7 he flX0_28 (by first | assumption | rfl | (repeat (first | exact z_set_self _ _ _ | assumption | refine z_skip rfl ?_))) (Nat.le_of_ble_eq_true rfl) (z_fit_i _) ?_
  exact z_vret h dX0_setIron_10 hr (by refine ⟨rfl, ?_⟩; simp only [z_set_set]; rfl)
set_option maxHeartbeats 4000000 in
set_option maxRecDepth 100000 in
theorem m_X0_heatOnce (G : z_G) (w : z_w) (b : Nat) (ds di le gr hes : Int32) (hw : w (18, b) = some (z_ob 0 [vr (19, b), vr (20, b), vi ds, vi di, vi le, vi gr, vi hes])) : z_M G yX0_heatOnce cX0_heatOnce 1 none 1 (0) (0) [vr (18, b)] w (fun r w1 => r = none ∧ w1 = z_set w (18, b) (z_ob 0 [vr (19, b), vr (20, b), vi ds, vi di, vi (le.toInt64 * 97 / 100).toInt32, vi ((gr.toInt64 * 99 + 99) / 100).toInt32, vi (hes + 1)])) := by
  refine z_met ym_X0_heatOnce (by decide) ⟨Nat.le_of_ble_eq_true rfl, Nat.le_of_ble_eq_true rfl⟩ (fun X hG hn hmc hms hin h hr => ?_)
  have he := hr.2.2.2.2.2.1
  refine z_aload_n h dX0_heatOnce_0 rfl ?_
  refine z_aload_n h dX0_heatOnce_1 rfl ?_
  refine z_get h dX0_heatOnce_2 flX0_25 (by first | assumption | rfl | (repeat (first | exact z_set_self _ _ _ | assumption | refine z_skip rfl ?_))) rfl ?_
  refine z_i2l h dX0_heatOnce_5 ?_
  refine z_ldc2 h dX0_heatOnce_6 klX0_31 ?_
  refine z_lmul h dX0_heatOnce_9 ?_
  refine z_ldc2 h dX0_heatOnce_10 klX0_33 ?_
  refine z_ldiv h dX0_heatOnce_13 (by first | assumption | decide) ?_
  refine z_l2i h dX0_heatOnce_14 ?_
  refine z_put h dX0_heatOnce_15 he flX0_25 (by first | assumption | rfl | (repeat (first | exact z_set_self _ _ _ | assumption | refine z_skip rfl ?_))) (Nat.le_of_ble_eq_true rfl) (z_fit_i _) ?_
  refine z_aload_n h dX0_heatOnce_18 rfl ?_
  refine z_aload_n h dX0_heatOnce_19 rfl ?_
  refine z_get h dX0_heatOnce_20 flX0_28 (by first | assumption | rfl | (repeat (first | exact z_set_self _ _ _ | assumption | refine z_skip rfl ?_))) rfl ?_
  refine z_i2l h dX0_heatOnce_23 ?_
  refine z_ldc2 h dX0_heatOnce_24 klX0_35 ?_
  refine z_lmul h dX0_heatOnce_27 ?_
  refine z_ldc2 h dX0_heatOnce_28 klX0_35 ?_
  refine z_ladd h dX0_heatOnce_31 ?_
  refine z_ldc2 h dX0_heatOnce_32 klX0_33 ?_
  refine z_ldiv h dX0_heatOnce_35 (by first | assumption | decide) ?_
  refine z_l2i h dX0_heatOnce_36 ?_
  refine z_put h dX0_heatOnce_37 he flX0_28 (by first | assumption | rfl | (repeat (first | exact z_set_self _ _ _ | assumption | refine z_skip rfl ?_))) (Nat.le_of_ble_eq_true rfl) (z_fit_i _) ?_
  refine z_aload_n h dX0_heatOnce_40 rfl ?_
  refine z_dup_r h dX0_heatOnce_41 ?_
  refine z_get h dX0_heatOnce_42 flX0_37 (by first | assumption | rfl | (repeat (first | exact z_set_self _ _ _ | assumption | refine z_skip rfl ?_))) rfl ?_
  refine z_iconst (v := 1) h dX0_heatOnce_45 (by decide) ?_
  refine z_iadd h dX0_heatOnce_46 ?_
  refine z_put h dX0_heatOnce_47 he flX0_37 (by first | assumption | rfl | (repeat (first | exact z_set_self _ _ _ | assumption | refine z_skip rfl ?_))) (Nat.le_of_ble_eq_true rfl) (z_fit_i _) ?_
  exact z_vret h dX0_heatOnce_50 hr (by refine ⟨rfl, ?_⟩; simp only [z_set_set]; rfl)
set_option maxHeartbeats 4000000 in
set_option maxRecDepth 100000 in
theorem m_X0_sortNow (G : z_G) (w : z_w) (b : Nat) (ds di le gr hes : Int32) (hw : w (18, b) = some (z_ob 0 [vr (19, b), vr (20, b), vi ds, vi di, vi le, vi gr, vi hes])) : z_M G yX0_sortNow cX0_sortNow 1 (some .int) 2 (0) (0) [vr (18, b)] w (fun r w1 => r = some (vi (if 0 < ds - hes / 2 then ds - hes / 2 else 0)) ∧ w1 = w) := by
  refine z_met ym_X0_sortNow (by decide) ⟨Nat.le_of_ble_eq_true rfl, Nat.le_of_ble_eq_true rfl⟩ (fun X hG hn hmc hms hin h hr => ?_)
  have he := hr.2.2.2.2.2.1
  refine z_iconst (v := 0) h dX0_sortNow_0 (by decide) ?_
  refine z_aload_n h dX0_sortNow_1 rfl ?_
  refine z_get h dX0_sortNow_2 flX0_18 (by first | assumption | rfl | (repeat (first | exact z_set_self _ _ _ | assumption | refine z_skip rfl ?_))) rfl ?_
  refine z_aload_n h dX0_sortNow_5 rfl ?_
  refine z_get h dX0_sortNow_6 flX0_37 (by first | assumption | rfl | (repeat (first | exact z_set_self _ _ _ | assumption | refine z_skip rfl ?_))) rfl ?_
  refine z_iconst (v := 2) h dX0_sortNow_9 (by decide) ?_
  refine z_idiv h dX0_sortNow_10 (by first | assumption | decide) ?_
  refine z_isub h dX0_sortNow_11 ?_
  refine z_max h dX0_sortNow_12 mlX0_40 sm_Mmax ic_Math co_Mmax (Nat.le_of_ble_eq_true rfl) ?_
  exact z_iret h dX0_sortNow_15 hr (⟨rfl, rfl⟩)
set_option maxHeartbeats 4000000 in
set_option maxRecDepth 100000 in
theorem m_X1_narrow (G : z_G) (w : z_w) (b : Nat) (ore gro res lo up ld : Int32) (hw : w (2, b) = some (z_ob 1 [vi ore, vi gro, vi res, vi lo, vi up, vi ld])) (a c : Int32) : z_M G yX1_narrow cX1_narrow 3 (some .boolean) 2 (0) (0) [vr (2, b), vi a, vi c] w (fun r w1 => if up < a ∨ c < lo then r = some (vi 0) ∧ w1 = w else r = some (vi 1) ∧ w1 = z_set w (2, b) (z_ob 1 [vi ore, vi gro, vi res, vi (if lo < a then a else lo), vi (if c < up then c else up), vi ld])) := by
  refine z_met ym_X1_narrow (by decide) ⟨Nat.le_of_ble_eq_true rfl, Nat.le_of_ble_eq_true rfl⟩ (fun X hG hn hmc hms hin h hr => ?_)
  have he := hr.2.2.2.2.2.1
  refine z_iload_n h dX1_narrow_0 rfl ?_
  refine z_aload_n h dX1_narrow_1 rfl ?_
  refine z_get h dX1_narrow_2 flX1_9 (by first | assumption | rfl | (repeat (first | exact z_set_self _ _ _ | assumption | refine z_skip rfl ?_))) rfl ?_
  refine z_icmp_gt h dX1_narrow_5 16 (by decide) (fun c_1 => ?_) (fun c_1 => ?_)
  · skip
    refine z_iconst (v := 0) h dX1_narrow_16 (by decide) ?_
    exact z_zret h dX1_narrow_17 hr rfl (z_t (Or.inl c_1) ⟨rfl, rfl⟩)
  · skip
    refine z_iload_n h dX1_narrow_8 rfl ?_
    refine z_aload_n h dX1_narrow_9 rfl ?_
    refine z_get h dX1_narrow_10 flX1_27 (by first | assumption | rfl | (repeat (first | exact z_set_self _ _ _ | assumption | refine z_skip rfl ?_))) rfl ?_
    refine z_icmp_ge h dX1_narrow_13 18 (by decide) (fun c_2 => ?_) (fun c_2 => ?_)
    · skip
      refine z_aload_n h dX1_narrow_18 rfl ?_
      refine z_aload_n h dX1_narrow_19 rfl ?_
      refine z_get h dX1_narrow_20 flX1_27 (by first | assumption | rfl | (repeat (first | exact z_set_self _ _ _ | assumption | refine z_skip rfl ?_))) rfl ?_
      refine z_iload_n h dX1_narrow_23 rfl ?_
      refine z_max h dX1_narrow_24 mlX1_30 sm_Mmax ic_Math co_Mmax (Nat.le_of_ble_eq_true rfl) ?_
      refine z_put h dX1_narrow_27 he flX1_27 (by first | assumption | rfl | (repeat (first | exact z_set_self _ _ _ | assumption | refine z_skip rfl ?_))) (Nat.le_of_ble_eq_true rfl) (z_fit_i _) ?_
      refine z_aload_n h dX1_narrow_30 rfl ?_
      refine z_aload_n h dX1_narrow_31 rfl ?_
      refine z_get h dX1_narrow_32 flX1_9 (by first | assumption | rfl | (repeat (first | exact z_set_self _ _ _ | assumption | refine z_skip rfl ?_))) rfl ?_
      refine z_iload_n h dX1_narrow_35 rfl ?_
      refine z_min h dX1_narrow_36 mlX1_36 sm_Mmin ic_Math co_Mmin (Nat.le_of_ble_eq_true rfl) ?_
      refine z_put h dX1_narrow_39 he flX1_9 (by first | assumption | rfl | (repeat (first | exact z_set_self _ _ _ | assumption | refine z_skip rfl ?_))) (Nat.le_of_ble_eq_true rfl) (z_fit_i _) ?_
      refine z_iconst (v := 1) h dX1_narrow_42 (by decide) ?_
      exact z_zret h dX1_narrow_43 hr rfl (z_f (fun q => q.elim c_1 (fun q => by simp only [z_lt, z_le, z_ie] at *; omega)) ⟨rfl, by simp only [z_set_set]; rfl⟩)
    · skip
      refine z_iconst (v := 0) h dX1_narrow_16 (by decide) ?_
      exact z_zret h dX1_narrow_17 hr rfl (z_t (Or.inr (by simp only [z_lt, z_le, z_ie] at *; omega)) ⟨rfl, rfl⟩)
set_option maxHeartbeats 4000000 in
set_option maxRecDepth 100000 in
theorem m_X1_restsIn (G : z_G) (w : z_w) (b : Nat) (ore gro res lo up ld : Int32) (hw : w (2, b) = some (z_ob 1 [vi ore, vi gro, vi res, vi lo, vi up, vi ld])) (y : Int32) : z_M G yX1_restsIn cX1_restsIn 2 (some .boolean) 1 (0) (0) [vr (2, b), vi y] w (fun r w1 => r = some (vi (z_b (¬ ld = -1 ∧ ¬ ld = y ∧ y - ld < res))) ∧ w1 = w) := by
  refine z_met ym_X1_restsIn (by decide) ⟨Nat.le_of_ble_eq_true rfl, Nat.le_of_ble_eq_true rfl⟩ (fun X hG hn hmc hms hin h hr => ?_)
  have he := hr.2.2.2.2.2.1
  refine z_aload_n h dX1_restsIn_0 rfl ?_
  refine z_get h dX1_restsIn_1 flX1_15 (by first | assumption | rfl | (repeat (first | exact z_set_self _ _ _ | assumption | refine z_skip rfl ?_))) rfl ?_
  refine z_iconst (v := -1) h dX1_restsIn_4 (by decide) ?_
  refine z_icmp_eq h dX1_restsIn_5 33 (by decide) (fun c_1 => ?_) (fun c_1 => ?_)
  · skip
    refine z_iconst (v := 0) h dX1_restsIn_33 (by decide) ?_
    exact z_zret h dX1_restsIn_34 hr rfl (⟨z_ret0 (fun q => q.1 c_1), rfl⟩)
  · skip
    refine z_aload_n h dX1_restsIn_8 rfl ?_
    refine z_get h dX1_restsIn_9 flX1_15 (by first | assumption | rfl | (repeat (first | exact z_set_self _ _ _ | assumption | refine z_skip rfl ?_))) rfl ?_
    refine z_iload_n h dX1_restsIn_12 rfl ?_
    refine z_icmp_eq h dX1_restsIn_13 33 (by decide) (fun c_2 => ?_) (fun c_2 => ?_)
    · skip
      refine z_iconst (v := 0) h dX1_restsIn_33 (by decide) ?_
      exact z_zret h dX1_restsIn_34 hr rfl (⟨z_ret0 (fun q => q.2.1 c_2), rfl⟩)
    · skip
      refine z_iload_n h dX1_restsIn_16 rfl ?_
      refine z_aload_n h dX1_restsIn_17 rfl ?_
      refine z_get h dX1_restsIn_18 flX1_15 (by first | assumption | rfl | (repeat (first | exact z_set_self _ _ _ | assumption | refine z_skip rfl ?_))) rfl ?_
      refine z_isub h dX1_restsIn_21 ?_
      refine z_aload_n h dX1_restsIn_22 rfl ?_
      refine z_get h dX1_restsIn_23 flX1_24 (by first | assumption | rfl | (repeat (first | exact z_set_self _ _ _ | assumption | refine z_skip rfl ?_))) rfl ?_
      refine z_icmp_ge h dX1_restsIn_26 33 (by decide) (fun c_3 => ?_) (fun c_3 => ?_)
      · skip
        refine z_iconst (v := 0) h dX1_restsIn_33 (by decide) ?_
        exact z_zret h dX1_restsIn_34 hr rfl (⟨z_ret0 (fun q => by have q3 := q.2.2; clear c_1 c_2 q; simp only [z_lt, z_le, z_ie] at *; omega), rfl⟩)
      · skip
        refine z_iconst (v := 1) h dX1_restsIn_29 (by decide) ?_
        refine z_goto h dX1_restsIn_30 34 (by decide) ?_
        exact z_zret h dX1_restsIn_34 hr rfl (⟨z_ret1 ⟨c_1, c_2, by clear c_1 c_2; simp only [z_lt, z_le, z_ie] at *; omega⟩, rfl⟩)
set_option maxHeartbeats 4000000 in
set_option maxRecDepth 100000 in
theorem m_X1_grow (G : z_G) (w : z_w) (b : Nat) (ore gro res lo up ld : Int32) (hw : w (2, b) = some (z_ob 1 [vi ore, vi gro, vi res, vi lo, vi up, vi ld])) : z_M G yX1_grow cX1_grow 1 none 2 (0) (0) [vr (2, b)] w (fun r w1 => r = none ∧ w1 = z_set w (2, b) (z_ob 1 [vi (if ore + gro < 100000 then ore + gro else 100000), vi gro, vi res, vi lo, vi up, vi ld])) := by
  refine z_met ym_X1_grow (by decide) ⟨Nat.le_of_ble_eq_true rfl, Nat.le_of_ble_eq_true rfl⟩ (fun X hG hn hmc hms hin h hr => ?_)
  have he := hr.2.2.2.2.2.1
  refine z_aload_n h dX1_grow_0 rfl ?_
  refine z_ldc h dX1_grow_1 kcX1_39 ?_
  refine z_aload_n h dX1_grow_3 rfl ?_
  refine z_get h dX1_grow_4 flX1_18 (by first | assumption | rfl | (repeat (first | exact z_set_self _ _ _ | assumption | refine z_skip rfl ?_))) rfl ?_
  refine z_aload_n h dX1_grow_7 rfl ?_
  refine z_get h dX1_grow_8 flX1_21 (by first | assumption | rfl | (repeat (first | exact z_set_self _ _ _ | assumption | refine z_skip rfl ?_))) rfl ?_
  refine z_iadd h dX1_grow_11 ?_
  refine z_min h dX1_grow_12 mlX1_36 sm_Mmin ic_Math co_Mmin (Nat.le_of_ble_eq_true rfl) ?_
  refine z_put h dX1_grow_15 he flX1_18 (by first | assumption | rfl | (repeat (first | exact z_set_self _ _ _ | assumption | refine z_skip rfl ?_))) (Nat.le_of_ble_eq_true rfl) (z_fit_i _) ?_
  exact z_vret h dX1_grow_18 hr (⟨rfl, rfl⟩)
set_option maxHeartbeats 4000000 in
set_option maxRecDepth 100000 in
theorem m_X10_addOre (G : z_G) (w : z_w) (b : Nat) (f : Nat → Int32) (k : Int32) (hb : b < 12) (h3 : w (3, 0) = some (z_ob 10 [vr (4, 0), vr (5, 0)])) (h4 : w (4, 0) = some (z_ia 12 f)) : z_M G yX10_addOre cX10_addOre 3 (some .int) 1 (0) (0) [vr (3, 0), vi (nI b), vi k] w (fun r w1 => r = some (vi (f b + k)) ∧ w1 = z_set w (4, 0) (z_ia 12 (upd f b (f b + k)))) := by
  refine z_met ym_X10_addOre (by decide) ⟨Nat.le_of_ble_eq_true rfl, Nat.le_of_ble_eq_true rfl⟩ (fun X hG hn hmc hms hin h hr => ?_)
  have he := hr.2.2.2.2.2.1
  refine z_iload_n h dX10_addOre_0 rfl ?_
  refine z_if_lt h dX10_addOre_1 13 (by decide) (fun c_1 => ?_) (fun c_1 => ?_)
  · skip
    exact absurd c_1 (nI_pos (by omega))
  · skip
    refine z_iload_n h dX10_addOre_4 rfl ?_
    refine z_aload_n h dX10_addOre_5 rfl ?_
    refine z_get h dX10_addOre_6 flX10_9 (by first | assumption | rfl | (repeat (first | exact z_set_self _ _ _ | assumption | refine z_skip rfl ?_))) rfl ?_
    refine z_alen h dX10_addOre_9 (by first | assumption | rfl | (repeat (first | exact z_set_self _ _ _ | assumption | refine z_skip rfl ?_))) (by decide) ?_
    refine z_icmp_lt h dX10_addOre_10 15 (by decide) (fun c_2 => ?_) (fun c_2 => ?_)
    · skip
      refine z_aload_n h dX10_addOre_15 rfl ?_
      refine z_get h dX10_addOre_16 flX10_9 (by first | assumption | rfl | (repeat (first | exact z_set_self _ _ _ | assumption | refine z_skip rfl ?_))) rfl ?_
      refine z_iload_n h dX10_addOre_19 rfl ?_
      refine z_dup2_ir h dX10_addOre_20 ?_
      refine z_iald h dX10_addOre_21 (by first | assumption | rfl | (repeat (first | exact z_set_self _ _ _ | assumption | refine z_skip rfl ?_))) (by first | assumption | exact z_ixn (by omega) (by omega)) ?_
      refine z_iload_n h dX10_addOre_22 rfl ?_
      refine z_iadd h dX10_addOre_23 ?_
      refine z_iast h dX10_addOre_24 (by first | assumption | rfl | (repeat (first | exact z_set_self _ _ _ | assumption | refine z_skip rfl ?_))) (by first | assumption | exact z_ixn (by omega) (by omega)) ?_
      refine z_aload_n h dX10_addOre_25 rfl ?_
      refine z_get h dX10_addOre_26 flX10_9 (by first | assumption | rfl | (repeat (first | exact z_set_self _ _ _ | assumption | refine z_skip rfl ?_))) rfl ?_
      refine z_iload_n h dX10_addOre_29 rfl ?_
      refine z_iald h dX10_addOre_30 (by first | assumption | rfl | (repeat (first | exact z_set_self _ _ _ | assumption | refine z_skip rfl ?_))) (by first | assumption | exact z_ixn (by omega) (by omega)) ?_
      exact z_iret h dX10_addOre_31 hr (⟨z_e1 pk_us, rfl⟩)
    · skip
      exact absurd (nI_lt hb (by omega)) c_2
set_option maxHeartbeats 4000000 in
set_option maxRecDepth 100000 in
theorem m_X10_addCoal (G : z_G) (w : z_w) (f : Nat → Int32) (x k : Int32) (h3 : w (3, 0) = some (z_ob 10 [vr (4, 0), vr (5, 0)])) (h5 : w (5, 0) = some (z_ia 8 f)) : z_M G yX10_addCoal cX10_addCoal 3 (some .int) 1 (0) (0) [vr (3, 0), vi x, vi k] w (fun r w1 => if (¬ x < 0 ∧ ¬ nI 8 ≤ x) ∧ f x.toNatClampNeg + k ≤ 1000000 then r = some (vi (f x.toNatClampNeg + k)) ∧ w1 = z_set w (5, 0) (z_ia 8 (upd f x.toNatClampNeg (f x.toNatClampNeg + k))) else r = some (vi (-1)) ∧ w1 = w) := by
  refine z_met ym_X10_addCoal (by decide) ⟨Nat.le_of_ble_eq_true rfl, Nat.le_of_ble_eq_true rfl⟩ (fun X hG hn hmc hms hin h hr => ?_)
  have he := hr.2.2.2.2.2.1
  refine z_iload_n h dX10_addCoal_0 rfl ?_
  refine z_if_lt h dX10_addCoal_1 26 (by decide) (fun c_1 => ?_) (fun c_1 => ?_)
  · skip
    refine z_iconst (v := -1) h dX10_addCoal_26 (by decide) ?_
    exact z_iret h dX10_addCoal_27 hr (z_f (fun q => q.1.1 c_1) ⟨rfl, rfl⟩)
  · skip
    refine z_iload_n h dX10_addCoal_4 rfl ?_
    refine z_aload_n h dX10_addCoal_5 rfl ?_
    refine z_get h dX10_addCoal_6 flX10_15 (by first | assumption | rfl | (repeat (first | exact z_set_self _ _ _ | assumption | refine z_skip rfl ?_))) rfl ?_
    refine z_alen h dX10_addCoal_9 (by first | assumption | rfl | (repeat (first | exact z_set_self _ _ _ | assumption | refine z_skip rfl ?_))) (by decide) ?_
    refine z_icmp_ge h dX10_addCoal_10 26 (by decide) (fun c_2 => ?_) (fun c_2 => ?_)
    · skip
      refine z_iconst (v := -1) h dX10_addCoal_26 (by decide) ?_
      exact z_iret h dX10_addCoal_27 hr (z_f (fun q => q.1.2 c_2) ⟨rfl, rfl⟩)
    · skip
      refine z_aload_n h dX10_addCoal_13 rfl ?_
      refine z_get h dX10_addCoal_14 flX10_15 (by first | assumption | rfl | (repeat (first | exact z_set_self _ _ _ | assumption | refine z_skip rfl ?_))) rfl ?_
      refine z_iload_n h dX10_addCoal_17 rfl ?_
      refine z_iald h dX10_addCoal_18 (by first | assumption | rfl | (repeat (first | exact z_set_self _ _ _ | assumption | refine z_skip rfl ?_))) (z_ixc c_1 c_2 (by decide)) ?_
      refine z_iload_n h dX10_addCoal_19 rfl ?_
      refine z_iadd h dX10_addCoal_20 ?_
      refine z_ldc h dX10_addCoal_21 kcX10_18 ?_
      refine z_icmp_le h dX10_addCoal_23 28 (by decide) (fun c_3 => ?_) (fun c_3 => ?_)
      · skip
        refine z_aload_n h dX10_addCoal_28 rfl ?_
        refine z_get h dX10_addCoal_29 flX10_15 (by first | assumption | rfl | (repeat (first | exact z_set_self _ _ _ | assumption | refine z_skip rfl ?_))) rfl ?_
        refine z_iload_n h dX10_addCoal_32 rfl ?_
        refine z_dup2_ir h dX10_addCoal_33 ?_
        refine z_iald h dX10_addCoal_34 (by first | assumption | rfl | (repeat (first | exact z_set_self _ _ _ | assumption | refine z_skip rfl ?_))) (z_ixc c_1 c_2 (by decide)) ?_
        refine z_iload_n h dX10_addCoal_35 rfl ?_
        refine z_iadd h dX10_addCoal_36 ?_
        refine z_iast h dX10_addCoal_37 (by first | assumption | rfl | (repeat (first | exact z_set_self _ _ _ | assumption | refine z_skip rfl ?_))) (z_ixc c_1 c_2 (by decide)) ?_
        refine z_aload_n h dX10_addCoal_38 rfl ?_
        refine z_get h dX10_addCoal_39 flX10_15 (by first | assumption | rfl | (repeat (first | exact z_set_self _ _ _ | assumption | refine z_skip rfl ?_))) rfl ?_
        refine z_iload_n h dX10_addCoal_42 rfl ?_
        refine z_iald h dX10_addCoal_43 (by first | assumption | rfl | (repeat (first | exact z_set_self _ _ _ | assumption | refine z_skip rfl ?_))) (z_ixc c_1 c_2 (by decide)) ?_
        exact z_iret h dX10_addCoal_44 hr (z_t ⟨⟨c_1, c_2⟩, c_3⟩ ⟨z_e1 pk_us, rfl⟩)
      · skip
        refine z_iconst (v := -1) h dX10_addCoal_26 (by decide) ?_
        exact z_iret h dX10_addCoal_27 hr (z_f (fun q => c_3 q.2) ⟨rfl, rfl⟩)
set_option maxHeartbeats 4000000 in
set_option maxRecDepth 100000 in
theorem m_X9_isLetter (G : z_G) (w : z_w) (x : Int32) : z_M G yX9_isLetter cX9_isLetter 1 (some .boolean) 1 (0) (0) [vi x] w (fun r w1 => r = some (vi (z_b (x = 104 ∨ x = 109 ∨ x = 99 ∨ x = 111))) ∧ w1 = w) := by
  refine z_met ym_X9_isLetter (by decide) ⟨Nat.le_of_ble_eq_true rfl, Nat.le_of_ble_eq_true rfl⟩ (fun X hG hn hmc hms hin h hr => ?_)
  have he := hr.2.2.2.2.2.1
  refine z_iload_n h dX9_isLetter_0 rfl ?_
  refine z_bipush (v := 104) h dX9_isLetter_1 (by decide) ?_
  refine z_icmp_eq h dX9_isLetter_3 24 (by decide) (fun c_1 => ?_) (fun c_1 => ?_)
  · skip
    refine z_iconst (v := 1) h dX9_isLetter_24 (by decide) ?_
    refine z_goto h dX9_isLetter_25 29 (by decide) ?_
    exact z_zret h dX9_isLetter_29 hr rfl (by first | exact ⟨z_ret1 (by simp_all), rfl⟩ | exact ⟨z_ret0 (by simp_all), rfl⟩)
  · skip
    refine z_iload_n h dX9_isLetter_6 rfl ?_
    refine z_bipush (v := 109) h dX9_isLetter_7 (by decide) ?_
    refine z_icmp_eq h dX9_isLetter_9 24 (by decide) (fun c_2 => ?_) (fun c_2 => ?_)
    · skip
      refine z_iconst (v := 1) h dX9_isLetter_24 (by decide) ?_
      refine z_goto h dX9_isLetter_25 29 (by decide) ?_
      exact z_zret h dX9_isLetter_29 hr rfl (by first | exact ⟨z_ret1 (by simp_all), rfl⟩ | exact ⟨z_ret0 (by simp_all), rfl⟩)
    · skip
      refine z_iload_n h dX9_isLetter_12 rfl ?_
      refine z_bipush (v := 99) h dX9_isLetter_13 (by decide) ?_
      refine z_icmp_eq h dX9_isLetter_15 24 (by decide) (fun c_3 => ?_) (fun c_3 => ?_)
      · skip
        refine z_iconst (v := 1) h dX9_isLetter_24 (by decide) ?_
        refine z_goto h dX9_isLetter_25 29 (by decide) ?_
        exact z_zret h dX9_isLetter_29 hr rfl (by first | exact ⟨z_ret1 (by simp_all), rfl⟩ | exact ⟨z_ret0 (by simp_all), rfl⟩)
      · skip
        refine z_iload_n h dX9_isLetter_18 rfl ?_
        refine z_bipush (v := 111) h dX9_isLetter_19 (by decide) ?_
        refine z_icmp_ne h dX9_isLetter_21 28 (by decide) (fun c_4 => ?_) (fun c_4 => ?_)
        · skip
          refine z_iconst (v := 0) h dX9_isLetter_28 (by decide) ?_
          exact z_zret h dX9_isLetter_29 hr rfl (by first | exact ⟨z_ret1 (by simp_all), rfl⟩ | exact ⟨z_ret0 (by simp_all), rfl⟩)
        · skip
          refine z_iconst (v := 1) h dX9_isLetter_24 (by decide) ?_
          refine z_goto h dX9_isLetter_25 29 (by decide) ?_
          exact z_zret h dX9_isLetter_29 hr rfl (by first | exact ⟨z_ret1 (by simp_all), rfl⟩ | exact ⟨z_ret0 (by simp_all), rfl⟩)
set_option maxHeartbeats 4000000 in
set_option maxRecDepth 100000 in
theorem m_X9_isSign (G : z_G) (w : z_w) (x : Int32) : z_M G yX9_isSign cX9_isSign 1 (some .boolean) 1 (0) (0) [vi x] w (fun r w1 => r = some (vi (z_b (x = 61 ∨ x = 60 ∨ x = 62))) ∧ w1 = w) := by
  refine z_met ym_X9_isSign (by decide) ⟨Nat.le_of_ble_eq_true rfl, Nat.le_of_ble_eq_true rfl⟩ (fun X hG hn hmc hms hin h hr => ?_)
  have he := hr.2.2.2.2.2.1
  refine z_iload_n h dX9_isSign_0 rfl ?_
  refine z_bipush (v := 61) h dX9_isSign_1 (by decide) ?_
  refine z_icmp_eq h dX9_isSign_3 18 (by decide) (fun c_1 => ?_) (fun c_1 => ?_)
  · skip
    refine z_iconst (v := 1) h dX9_isSign_18 (by decide) ?_
    refine z_goto h dX9_isSign_19 23 (by decide) ?_
    exact z_zret h dX9_isSign_23 hr rfl (by first | exact ⟨z_ret1 (by simp_all), rfl⟩ | exact ⟨z_ret0 (by simp_all), rfl⟩)
  · skip
    refine z_iload_n h dX9_isSign_6 rfl ?_
    refine z_bipush (v := 60) h dX9_isSign_7 (by decide) ?_
    refine z_icmp_eq h dX9_isSign_9 18 (by decide) (fun c_2 => ?_) (fun c_2 => ?_)
    · skip
      refine z_iconst (v := 1) h dX9_isSign_18 (by decide) ?_
      refine z_goto h dX9_isSign_19 23 (by decide) ?_
      exact z_zret h dX9_isSign_23 hr rfl (by first | exact ⟨z_ret1 (by simp_all), rfl⟩ | exact ⟨z_ret0 (by simp_all), rfl⟩)
    · skip
      refine z_iload_n h dX9_isSign_12 rfl ?_
      refine z_bipush (v := 62) h dX9_isSign_13 (by decide) ?_
      refine z_icmp_ne h dX9_isSign_15 22 (by decide) (fun c_3 => ?_) (fun c_3 => ?_)
      · skip
        refine z_iconst (v := 0) h dX9_isSign_22 (by decide) ?_
        exact z_zret h dX9_isSign_23 hr rfl (by first | exact ⟨z_ret1 (by simp_all), rfl⟩ | exact ⟨z_ret0 (by simp_all), rfl⟩)
      · skip
        refine z_iconst (v := 1) h dX9_isSign_18 (by decide) ?_
        refine z_goto h dX9_isSign_19 23 (by decide) ?_
        exact z_zret h dX9_isSign_23 hr rfl (by first | exact ⟨z_ret1 (by simp_all), rfl⟩ | exact ⟨z_ret0 (by simp_all), rfl⟩)
set_option maxHeartbeats 4000000 in
set_option maxRecDepth 100000 in
theorem m_X9_isDigit (G : z_G) (w : z_w) (x : Int32) : z_M G yX9_isDigit cX9_isDigit 1 (some .boolean) 1 (0) (0) [vi x] w (fun r w1 => r = some (vi (z_b (48 ≤ x ∧ x ≤ 57))) ∧ w1 = w) := by
  refine z_met ym_X9_isDigit (by decide) ⟨Nat.le_of_ble_eq_true rfl, Nat.le_of_ble_eq_true rfl⟩ (fun X hG hn hmc hms hin h hr => ?_)
  have he := hr.2.2.2.2.2.1
  refine z_iload_n h dX9_isDigit_0 rfl ?_
  refine z_bipush (v := 48) h dX9_isDigit_1 (by decide) ?_
  refine z_icmp_lt h dX9_isDigit_3 16 (by decide) (fun c_1 => ?_) (fun c_1 => ?_)
  · skip
    refine z_iconst (v := 0) h dX9_isDigit_16 (by decide) ?_
    exact z_zret h dX9_isDigit_17 hr rfl (by first | exact ⟨z_ret1 (by simp only [z_lt, z_le, z_ie] at *; omega), rfl⟩ | exact ⟨z_ret0 (by simp only [z_lt, z_le, z_ie] at *; omega), rfl⟩)
  · skip
    refine z_iload_n h dX9_isDigit_6 rfl ?_
    refine z_bipush (v := 57) h dX9_isDigit_7 (by decide) ?_
    refine z_icmp_gt h dX9_isDigit_9 16 (by decide) (fun c_2 => ?_) (fun c_2 => ?_)
    · skip
      refine z_iconst (v := 0) h dX9_isDigit_16 (by decide) ?_
      exact z_zret h dX9_isDigit_17 hr rfl (by first | exact ⟨z_ret1 (by simp only [z_lt, z_le, z_ie] at *; omega), rfl⟩ | exact ⟨z_ret0 (by simp only [z_lt, z_le, z_ie] at *; omega), rfl⟩)
    · skip
      refine z_iconst (v := 1) h dX9_isDigit_12 (by decide) ?_
      refine z_goto h dX9_isDigit_13 17 (by decide) ?_
      exact z_zret h dX9_isDigit_17 hr rfl (by first | exact ⟨z_ret1 (by simp only [z_lt, z_le, z_ie] at *; omega), rfl⟩ | exact ⟨z_ret0 (by simp only [z_lt, z_le, z_ie] at *; omega), rfl⟩)
set_option maxHeartbeats 4000000 in
set_option maxRecDepth 100000 in
theorem m_X12_isDigit (G : z_G) (w : z_w) (x : Int32) : z_M G yX12_isDigit cX12_isDigit 1 (some .boolean) 1 (0) (0) [vi x] w (fun r w1 => r = some (vi (z_b (48 ≤ x ∧ x ≤ 57))) ∧ w1 = w) := by
  refine z_met ym_X12_isDigit (by decide) ⟨Nat.le_of_ble_eq_true rfl, Nat.le_of_ble_eq_true rfl⟩ (fun X hG hn hmc hms hin h hr => ?_)
  have he := hr.2.2.2.2.2.1
  refine z_iload_n h dX12_isDigit_0 rfl ?_
  refine z_bipush (v := 48) h dX12_isDigit_1 (by decide) ?_
  refine z_icmp_lt h dX12_isDigit_3 16 (by decide) (fun c_1 => ?_) (fun c_1 => ?_)
  · skip
    refine z_iconst (v := 0) h dX12_isDigit_16 (by decide) ?_
    exact z_zret h dX12_isDigit_17 hr rfl (by first | exact ⟨z_ret1 (by simp only [z_lt, z_le, z_ie] at *; omega), rfl⟩ | exact ⟨z_ret0 (by simp only [z_lt, z_le, z_ie] at *; omega), rfl⟩)
  · skip
    refine z_iload_n h dX12_isDigit_6 rfl ?_
    refine z_bipush (v := 57) h dX12_isDigit_7 (by decide) ?_
    refine z_icmp_gt h dX12_isDigit_9 16 (by decide) (fun c_2 => ?_) (fun c_2 => ?_)
    · skip
      refine z_iconst (v := 0) h dX12_isDigit_16 (by decide) ?_
      exact z_zret h dX12_isDigit_17 hr rfl (by first | exact ⟨z_ret1 (by simp only [z_lt, z_le, z_ie] at *; omega), rfl⟩ | exact ⟨z_ret0 (by simp only [z_lt, z_le, z_ie] at *; omega), rfl⟩)
    · skip
      refine z_iconst (v := 1) h dX12_isDigit_12 (by decide) ?_
      refine z_goto h dX12_isDigit_13 17 (by decide) ?_
      exact z_zret h dX12_isDigit_17 hr rfl (by first | exact ⟨z_ret1 (by simp only [z_lt, z_le, z_ie] at *; omega), rfl⟩ | exact ⟨z_ret0 (by simp only [z_lt, z_le, z_ie] at *; omega), rfl⟩)
end
section
/-! worlds by a table of shapes and three functions of contents -/
abbrev r_sh : Type := Nat ⊕ (Nat ⊕ (Nat ⊕ ((Nat × Nat) ⊕ (Nat × List (Option z_T)))))
abbrev s_i (n : Nat) : r_sh := .inl n
abbrev s_z (n : Nat) : r_sh := .inr (.inl n)
abbrev s_l (n : Nat) : r_sh := .inr (.inr (.inl n))
abbrev s_r (k n : Nat) : r_sh := .inr (.inr (.inr (.inl (k, n))))
abbrev s_o (ci : Nat) (sp : List (Option z_T)) : r_sh := .inr (.inr (.inr (.inr (ci, sp))))
abbrev r_c : Type := z_T → Nat → Int32
abbrev r_l : Type := z_T → Nat → Int64
abbrev r_r : Type := z_T → Nat → Option z_T
def r_row (f : Nat → Int32) : Nat → List (Option z_T) → List z_v
  | _, [] => []
  | k, none :: r => vi (f k) :: r_row f (k + 1) r
  | k, some t :: r => vr t :: r_row f (k + 1) r
def r_mk : r_sh → (Nat → Int32) → (Nat → Int64) → (Nat → Option z_T) → z_c
  | .inl n, f, _, _ => z_ia n f
  | .inr (.inl n), f, _, _ => z_za n f
  | .inr (.inr (.inl n)), _, g, _ => z_la n g
  | .inr (.inr (.inr (.inl (k, n)))), _, _, h => z_ra k n h
  | .inr (.inr (.inr (.inr (ci, sp)))), f, _, _ => z_ob ci (r_row f 0 sp)
/-- within dom the world is as the table and the contents say; without, as w0 -/
def r_p (dom : z_T → Prop) (T : z_T → Option r_sh) (w0 : z_w) (c : r_c) (l : r_l) (r : r_r) (w : z_w) : Prop :=
  (∀ t, dom t → w t = (T t).map (fun s => r_mk s (c t) (l t) (r t))) ∧ ∀ t, ¬ dom t → w t = w0 t
/-- another row of contents at a tag -/
def r_cf {α : Type} (c : z_T → α) (t : z_T) (f : α) : z_T → α := fun q => bif z_eq q t then f else c q
abbrev r_cs (c : r_c) (t : z_T) (k : Nat) (v : Int32) : r_c := r_cf c t (upd (c t) k v)
theorem r_cf_self {α : Type} (c : z_T → α) (t : z_T) (f : α) : r_cf c t f t = f := by simp [r_cf, z_eq_self]
theorem r_cf_ne {α : Type} {c : z_T → α} {t q : z_T} {f : α} (h : q ≠ t) : r_cf c t f q = c q := by simp [r_cf, z_eq_ne h]
theorem r_cf_cf {α : Type} (c : z_T → α) (t : z_T) (f g : α) : r_cf (r_cf c t f) t g = r_cf c t g := by
  funext q
  by_cases e : q = t
  · subst e; rw [r_cf_self, r_cf_self]
  · rw [r_cf_ne e, r_cf_ne e, r_cf_ne e]
theorem r_cf_same {α : Type} (c : z_T → α) (t : z_T) : r_cf c t (c t) = c := by
  funext q
  by_cases e : q = t
  · subst e; rw [r_cf_self]
  · rw [r_cf_ne e]
theorem r_cf_comm {α : Type} {c : z_T → α} {t u : z_T} {f g : α} (h : z_eq t u = false) : r_cf (r_cf c t f) u g = r_cf (r_cf c u g) t f := by
  have hne : t ≠ u := fun e => by subst e; rw [z_eq_self] at h; cases h
  funext q
  by_cases e : q = t
  · subst e; rw [r_cf_self, r_cf_ne hne, r_cf_self]
  · by_cases e2 : q = u
    · subst e2; rw [r_cf_self, r_cf_ne e, r_cf_self]
    · rw [r_cf_ne e2, r_cf_ne e, r_cf_ne e, r_cf_ne e2]
theorem r_row_get {f : Nat → Int32} : ∀ {sp : List (Option z_T)} {j k : Nat}, sp[k]? = some none → (r_row f j sp)[k]? = some (vi (f (j + k)))
  | [], j, k, h => by simp at h
  | none :: r, j, 0, h => rfl
  | some t :: r, j, 0, h => by simp at h
  | none :: r, j, k + 1, h => by
    have := r_row_get (f := f) (sp := r) (j := j + 1) (k := k) h
    rw [show j + 1 + k = j + (k + 1) by omega] at this
    exact this
  | some t :: r, j, k + 1, h => by
    have := r_row_get (f := f) (sp := r) (j := j + 1) (k := k) h
    rw [show j + 1 + k = j + (k + 1) by omega] at this
    exact this
theorem r_row_ref {f : Nat → Int32} {t : z_T} : ∀ {sp : List (Option z_T)} {j k : Nat}, sp[k]? = some (some t) → (r_row f j sp)[k]? = some (vr t)
  | [], j, k, h => by simp at h
  | none :: r, j, 0, h => by simp at h
  | some u :: r, j, 0, h => by
    have e : u = t := by simpa using h
    subst e
    rfl
  | none :: r, j, k + 1, h => r_row_ref (sp := r) (j := j + 1) (k := k) h
  | some u :: r, j, k + 1, h => r_row_ref (sp := r) (j := j + 1) (k := k) h
theorem r_row_lt {f : Nat → Int32} {x : Int32} : ∀ {sp : List (Option z_T)} {j k : Nat}, k < j → r_row (upd f k x) j sp = r_row f j sp
  | [], _, _, _ => rfl
  | none :: r, j, k, h => by
    show vi (upd f k x j) :: r_row (upd f k x) (j + 1) r = vi (f j) :: r_row f (j + 1) r
    rw [r_row_lt (show k < j + 1 by omega), pk_un (show j ≠ k by omega)]
  | some t :: r, j, k, h => by
    show vr t :: r_row (upd f k x) (j + 1) r = vr t :: r_row f (j + 1) r
    rw [r_row_lt (show k < j + 1 by omega)]
theorem r_row_set {f : Nat → Int32} {x : Int32} : ∀ {sp : List (Option z_T)} {j k : Nat}, sp[k]? = some none → (r_row f j sp).set k (vi x) = r_row (upd f (j + k) x) j sp
  | [], j, k, h => by simp at h
  | none :: r, j, 0, h => by
    show vi x :: r_row f (j + 1) r = vi (upd f j x j) :: r_row (upd f j x) (j + 1) r
    rw [r_row_lt (show j < j + 1 by omega), pk_us]
  | some t :: r, j, 0, h => by simp at h
  | none :: r, j, k + 1, h => by
    have := r_row_set (f := f) (x := x) (sp := r) (j := j + 1) (k := k) h
    show vi (f j) :: (r_row f (j + 1) r).set k (vi x) = vi (upd f (j + (k + 1)) x j) :: r_row (upd f (j + (k + 1)) x) (j + 1) r
    rw [this, show j + 1 + k = j + (k + 1) by omega, pk_un (show j ≠ j + (k + 1) by omega)]
  | some t :: r, j, k + 1, h => by
    have := r_row_set (f := f) (x := x) (sp := r) (j := j + 1) (k := k) h
    show vr t :: (r_row f (j + 1) r).set k (vi x) = vr t :: r_row (upd f (j + (k + 1)) x) (j + 1) r
    rw [this, show j + 1 + k = j + (k + 1) by omega]
theorem r_row_len {f : Nat → Int32} : ∀ {sp : List (Option z_T)} {j : Nat}, (r_row f j sp).length = sp.length
  | [], _ => rfl
  | none :: r, j => congrArg (· + 1) (r_row_len (sp := r) (j := j + 1))
  | some t :: r, j => congrArg (· + 1) (r_row_len (sp := r) (j := j + 1))
section RP
variable {dom : z_T → Prop} {T : z_T → Option r_sh} {w0 w : z_w} {c : r_c} {l : r_l} {r : r_r}
theorem r_p.at (h : r_p dom T w0 c l r w) {t : z_T} {s : r_sh} (hd : dom t) (hT : T t = some s) : w t = some (r_mk s (c t) (l t) (r t)) := by rw [h.1 t hd, hT]; rfl
theorem r_p.free (h : r_p dom T w0 c l r w) {t : z_T} (hd : dom t) (hT : T t = none) : w t = none := by rw [h.1 t hd, hT]; rfl
theorem r_p.out (h : r_p dom T w0 c l r w) {t : z_T} (hd : ¬ dom t) : w t = w0 t := h.2 t hd
/-- another row at a tag -/
theorem r_p.setf (h : r_p dom T w0 c l r w) {t : z_T} {s : r_sh} (hd : dom t) (hT : T t = some s) (f : Nat → Int32) (g : Nat → Int64) (k : Nat → Option z_T) : r_p dom T w0 (r_cf c t f) (r_cf l t g) (r_cf r t k) (z_set w t (r_mk s f g k)) := by
  refine ⟨fun q hq => ?_, fun q hq => ?_⟩
  · by_cases e : q = t
    · subst e; rw [z_set_self, hT, r_cf_self, r_cf_self, r_cf_self]; rfl
    · rw [z_set_ne e, h.1 q hq, r_cf_ne e, r_cf_ne e, r_cf_ne e]
  · rw [z_set_ne (fun e : q = t => hq (by rw [e]; exact hd)), h.2 q hq]
theorem r_p.seti (h : r_p dom T w0 c l r w) {t : z_T} {n : Nat} (hd : dom t) (hT : T t = some (s_i n)) (f : Nat → Int32) : r_p dom T w0 (r_cf c t f) l r (z_set w t (z_ia n f)) := by
  have := h.setf hd hT f (l t) (r t)
  rw [r_cf_same, r_cf_same] at this
  exact this
theorem r_p.setz (h : r_p dom T w0 c l r w) {t : z_T} {n : Nat} (hd : dom t) (hT : T t = some (s_z n)) (f : Nat → Int32) : r_p dom T w0 (r_cf c t f) l r (z_set w t (z_za n f)) := by
  have := h.setf hd hT f (l t) (r t)
  rw [r_cf_same, r_cf_same] at this
  exact this
theorem r_p.setl (h : r_p dom T w0 c l r w) {t : z_T} {n : Nat} (hd : dom t) (hT : T t = some (s_l n)) (g : Nat → Int64) : r_p dom T w0 c (r_cf l t g) r (z_set w t (z_la n g)) := by
  have := h.setf hd hT (c t) g (r t)
  rw [r_cf_same, r_cf_same] at this
  exact this
theorem r_p.setr (h : r_p dom T w0 c l r w) {t : z_T} {k n : Nat} (hd : dom t) (hT : T t = some (s_r k n)) (g : Nat → Option z_T) : r_p dom T w0 c l (r_cf r t g) (z_set w t (z_ra k n g)) := by
  have := h.setf hd hT (c t) (l t) g
  rw [r_cf_same, r_cf_same] at this
  exact this
theorem r_p.seto (h : r_p dom T w0 c l r w) {t : z_T} {ci : Nat} {sp : List (Option z_T)} (hd : dom t) (hT : T t = some (s_o ci sp)) {k : Nat} (hk : sp[k]? = some none) (x : Int32) : r_p dom T w0 (r_cs c t k x) l r (z_set w t (z_ob ci ((r_row (c t) 0 sp).set k (vi x)))) := by
  have := h.setf hd hT (upd (c t) k x) (l t) (r t)
  rw [r_cf_same, r_cf_same] at this
  rw [r_row_set hk, Nat.zero_add]
  exact this
/-- a new cell -/
def r_ts (T : z_T → Option r_sh) (t : z_T) (s : r_sh) : z_T → Option r_sh := fun q => bif z_eq q t then some s else T q
theorem r_ts_self (T : z_T → Option r_sh) (t : z_T) (s : r_sh) : r_ts T t s t = some s := by simp [r_ts, z_eq_self]
theorem r_ts_ne {T : z_T → Option r_sh} {t q : z_T} {s : r_sh} (h : q ≠ t) : r_ts T t s q = T q := by simp [r_ts, z_eq_ne h]
theorem r_p.new (h : r_p dom T w0 c l r w) {t : z_T} (hd : dom t) (s : r_sh) (f : Nat → Int32) (g : Nat → Int64) (k : Nat → Option z_T) : r_p dom (r_ts T t s) w0 (r_cf c t f) (r_cf l t g) (r_cf r t k) (z_set w t (r_mk s f g k)) := by
  refine ⟨fun q hq => ?_, fun q hq => ?_⟩
  · by_cases e : q = t
    · subst e; rw [z_set_self, r_ts_self, r_cf_self, r_cf_self, r_cf_self]; rfl
    · rw [z_set_ne e, h.1 q hq, r_cf_ne e, r_cf_ne e, r_cf_ne e, r_ts_ne e]
  · rw [z_set_ne (fun e : q = t => hq (by rw [e]; exact hd)), h.2 q hq]
/-- the same world, other names for what isn't seen -/
theorem r_p.alike (h : r_p dom T w0 c l r w) {T' : z_T → Option r_sh} {c' : r_c} {l' : r_l} {r' : r_r} (he : ∀ t, dom t → (T t).map (fun s => r_mk s (c t) (l t) (r t)) = (T' t).map (fun s => r_mk s (c' t) (l' t) (r' t))) : r_p dom T' w0 c' l' r' w := ⟨fun t ht => (h.1 t ht).trans (he t ht), h.2⟩
end RP
section RR
variable {X : z_X} {cc : ByteArray} {own : String} {d kC kS : Nat} {w : z_w} {pc : Nat} {L : List (Nat × z_v)} {st : List z_v}
variable {dom : z_T → Prop} {T : z_T → Option r_sh} {w0 : z_w} {c : r_c} {l : r_l} {r : r_r} {t u : z_T} {n j : Nat} {i : Int32}
theorem y_geti {idx ci k : Nat} {ty : FieldType} {fin : Nat} {sp : List (Option z_T)} (h : z_H X cc own d) (hd : decode cc pc = .ok (.getfield idx, 3)) (hR : r_p dom T w0 c l r w) (hf : z_FL own idx ci k ty fin) (hD : dom t) (hT : T t = some (s_o ci sp)) (hk : sp[k]? = some none) (kk : z_V X kC kS w (pc + 3) L (vi (c t k) :: st)) : z_V X kC kS w pc L (vr t :: st) :=
  z_get h hd hf (fs := r_row (c t) 0 sp) (hR.at hD hT) (v := vi (c t k)) (by have := r_row_get (f := c t) (j := 0) hk; rw [Nat.zero_add] at this; exact this) kk
theorem y_getr {idx ci k : Nat} {ty : FieldType} {fin : Nat} {sp : List (Option z_T)} (h : z_H X cc own d) (hd : decode cc pc = .ok (.getfield idx, 3)) (hR : r_p dom T w0 c l r w) (hf : z_FL own idx ci k ty fin) (hD : dom t) (hT : T t = some (s_o ci sp)) (hk : sp[k]? = some (some u)) (kk : z_V X kC kS w (pc + 3) L (vr u :: st)) : z_V X kC kS w pc L (vr t :: st) :=
  z_get h hd hf (fs := r_row (c t) 0 sp) (hR.at hD hT) (v := vr u) (r_row_ref hk) kk
theorem y_put {idx ci k : Nat} {ty : FieldType} {sp : List (Option z_T)} {x : Int32} (h : z_H X cc own d) (hd : decode cc pc = .ok (.putfield idx, 3)) (he0 : ∀ t, ¬ x_E0 X t) (hR : r_p dom T w0 c l r w) (hf : z_FL own idx ci k ty 0) (hty : ty = .int) (hD : dom t) (hT : T t = some (s_o ci sp)) (hk : sp[k]? = some none) (kk : ∀ w', r_p dom T w0 (r_cs c t k x) l r w' → z_V X kC kS w' (pc + 3) L st) : z_V X kC kS w pc L (vi x :: vr t :: st) := by
  subst hty
  refine z_put h hd he0 hf (fs := r_row (c t) 0 sp) (hR.at hD hT) ?_ (z_fit_i x) (kk _ (hR.seto hD hT hk x))
  rw [r_row_len]
  exact (List.getElem?_eq_some_iff.mp hk).1
theorem y_alen {k : Nat} {f : z_ar} (h : z_H X cc own d) (hd : decode cc pc = .ok (.arraylength, 1)) (hw : w t = some (.inl (k, n, f))) (hk : k ≤ 5) (kk : z_V X kC kS w (pc + 1) L (vi (nI n) :: st)) : z_V X kC kS w pc L (vr t :: st) := z_alen h hd hw hk kk
theorem y_leni (h : z_H X cc own d) (hd : decode cc pc = .ok (.arraylength, 1)) (hR : r_p dom T w0 c l r w) (hD : dom t) (hT : T t = some (s_i n)) (kk : z_V X kC kS w (pc + 1) L (vi (nI n) :: st)) : z_V X kC kS w pc L (vr t :: st) := z_alen h hd (hR.at hD hT) (by decide) kk
theorem y_lenr {k : Nat} (h : z_H X cc own d) (hd : decode cc pc = .ok (.arraylength, 1)) (hR : r_p dom T w0 c l r w) (hD : dom t) (hT : T t = some (s_r k n)) (hk : k ≤ 5) (kk : z_V X kC kS w (pc + 1) L (vi (nI n) :: st)) : z_V X kC kS w pc L (vr t :: st) := z_alen h hd (hR.at hD hT) hk kk
theorem y_iald (h : z_H X cc own d) (hd : decode cc pc = .ok (.iaload, 1)) (hR : r_p dom T w0 c l r w) (hD : dom t) (hT : T t = some (s_i n)) (hi : z_ix i j n) (kk : z_V X kC kS w (pc + 1) L (vi (c t j) :: st)) : z_V X kC kS w pc L (vi i :: vr t :: st) := z_iald h hd (f := c t) (hR.at hD hT) hi kk
theorem y_zald (h : z_H X cc own d) (hd : decode cc pc = .ok (.baload, 1)) (hR : r_p dom T w0 c l r w) (hD : dom t) (hT : T t = some (s_z n)) (hi : z_ix i j n) (kk : z_V X kC kS w (pc + 1) L (vi (c t j) :: st)) : z_V X kC kS w pc L (vi i :: vr t :: st) := z_zald h hd (f := c t) (hR.at hD hT) hi kk
theorem y_lald (h : z_H X cc own d) (hd : decode cc pc = .ok (.laload, 1)) (hR : r_p dom T w0 c l r w) (hD : dom t) (hT : T t = some (s_l n)) (hi : z_ix i j n) (kk : z_V X kC kS w (pc + 1) L (vl (l t j) :: st)) : z_V X kC kS w pc L (vi i :: vr t :: st) := z_lald h hd (f := l t) (hR.at hD hT) hi kk
theorem y_aald {k : Nat} {C : String} (h : z_H X cc own d) (hd : decode cc pc = .ok (.aaload, 1)) (hR : r_p dom T w0 c l r w) (hD : dom t) (hT : T t = some (s_r k n)) (hk : z_ob? k = some C) (hi : z_ix i j n) (hu : r t j = some u) (kk : z_V X kC kS w (pc + 1) L (vr u :: st)) : z_V X kC kS w pc L (vi i :: vr t :: st) := z_aald h hd hk (f := r t) (hR.at hD hT) hi hu kk
theorem y_aaldN {k : Nat} {C : String} (h : z_H X cc own d) (hd : decode cc pc = .ok (.aaload, 1)) (hR : r_p dom T w0 c l r w) (hD : dom t) (hT : T t = some (s_r k n)) (hk : z_ob? k = some C) (hi : z_ix i j n) (hu : r t j = none) (kk : z_V X kC kS w (pc + 1) L (vn :: st)) : z_V X kC kS w pc L (vi i :: vr t :: st) := z_aaldN h hd hk (f := r t) (hR.at hD hT) hi hu kk
theorem y_iast {x : Int32} (h : z_H X cc own d) (hd : decode cc pc = .ok (.iastore, 1)) (hR : r_p dom T w0 c l r w) (hD : dom t) (hT : T t = some (s_i n)) (hi : z_ix i j n) (kk : ∀ w', r_p dom T w0 (r_cs c t j x) l r w' → z_V X kC kS w' (pc + 1) L st) : z_V X kC kS w pc L (vi x :: vi i :: vr t :: st) := z_iast h hd (f := c t) (hR.at hD hT) hi (kk _ (hR.seti hD hT _))
theorem y_zast {x : Int32} (h : z_H X cc own d) (hd : decode cc pc = .ok (.bastore, 1)) (hR : r_p dom T w0 c l r w) (hD : dom t) (hT : T t = some (s_z n)) (hi : z_ix i j n) (hx : vp_nar .boolean x = x) (kk : ∀ w', r_p dom T w0 (r_cs c t j x) l r w' → z_V X kC kS w' (pc + 1) L st) : z_V X kC kS w pc L (vi x :: vi i :: vr t :: st) := z_zast h hd (f := c t) (hR.at hD hT) hi hx (kk _ (hR.setz hD hT _))
theorem y_last {x : Int64} (h : z_H X cc own d) (hd : decode cc pc = .ok (.lastore, 1)) (hR : r_p dom T w0 c l r w) (hD : dom t) (hT : T t = some (s_l n)) (hi : z_ix i j n) (kk : ∀ w', r_p dom T w0 c (r_cf l t (vp_updL (l t) j x)) r w' → z_V X kC kS w' (pc + 1) L st) : z_V X kC kS w pc L (vl x :: vi i :: vr t :: st) := z_last h hd (f := l t) (hR.at hD hT) hi (kk _ (hR.setl hD hT _))
theorem y_aast {k ci : Nat} {q : vw_C} {sp : List (Option z_T)} (h : z_H X cc own d) (hd : decode cc pc = .ok (.aastore, 1)) (hR : r_p dom T w0 c l r w) (hD : dom t) (hT : T t = some (s_r k n)) (hk : z_ob? k = some q.1) (hc : vwCl[ci]? = some q) (hi : z_ix i j n) (hDu : dom u) (hTu : T u = some (s_o ci sp)) (kk : ∀ w', r_p dom T w0 c l (r_cf r t (va_up (r t) j (some u))) w' → z_V X kC kS w' (pc + 1) L st) : z_V X kC kS w pc L (vr u :: vi i :: vr t :: st) := z_aast h hd hk hc (f := r t) (hR.at hD hT) hi (hR.at hDu hTu) (kk _ (hR.setr hD hT _))
/-- other contents that the world can't tell -/
theorem y_cong {f : Nat → Int32} (hR : r_p dom T w0 c l r w) (hD : dom t) (hT : T t = some (s_i n)) (hf : ∀ j, j < n → c t j = f j) (kk : ∀ w', r_p dom T w0 (r_cf c t f) l r w' → z_V X kC kS w' pc L st) : z_V X kC kS w pc L st := z_cong (f := c t) (g := f) (hR.at hD hT) hf (kk _ (hR.seti hD hT _))
theorem y_congz {f : Nat → Int32} (hR : r_p dom T w0 c l r w) (hD : dom t) (hT : T t = some (s_z n)) (hf : ∀ j, j < n → c t j = f j) (kk : ∀ w', r_p dom T w0 (r_cf c t f) l r w' → z_V X kC kS w' pc L st) : z_V X kC kS w pc L st := z_cong (f := c t) (g := f) (hR.at hD hT) hf (kk _ (hR.setz hD hT _))
theorem y_congl {f : Nat → Int64} (hR : r_p dom T w0 c l r w) (hD : dom t) (hT : T t = some (s_l n)) (hf : ∀ j, j < n → l t j = f j) (kk : ∀ w', r_p dom T w0 c (r_cf l t f) r w' → z_V X kC kS w' pc L st) : z_V X kC kS w pc L st := z_congL (f := l t) (g := f) (hR.at hD hT) hf (kk _ (hR.setl hD hT _))
/-- a new cell -/
theorem y_new {idx ci m : Nat} {sp : List (Option z_T)} {f : Nat → Int32} (h : z_H X cc own d) (hd : decode cc pc = .ok (.new idx, 3)) (he0 : ∀ t, ¬ x_E0 X t) (hR : r_p dom T w0 c l r w) {fs : List z_v} (hn : z_NW own idx ci m fs) (t : z_T) (hD : dom t) (hT : T t = none) (kk : ∀ w', w' = z_set w t (z_ob ci fs) → z_V X kC kS w' (pc + 3) L (vr t :: st)) : z_V X (kC + 1) (kS + m) w pc L st := z_new h hd he0 hn t (hR.free hD hT) (kk _ rfl)
end RR
/-! the two tables -/
def dX : z_T → Prop := fun t => t.1 < 100
def dM : z_T → Prop := fun t => 100 ≤ t.1
abbrev ints (n : Nat) : List (Option z_T) := List.replicate n none
def XL : List r_sh := [
  s_o 11 [none, some (1, 0), none, some (3, 0), some (6, 0), some (8, 0), some (13, 0), some (17, 0), none, none, some (21, 0), some (26, 0), none, some (29, 0), some (35, 0), some (44, 0), some (47, 0)],
  s_r 3 12, s_i 0, s_o 10 [some (4, 0), some (5, 0)], s_i 12, s_i 8,
  s_o 9 [some (7, 0), none], s_i 200, s_o 2 [some (9, 0), some (10, 0), some (11, 0), some (12, 0), none], s_i 40, s_i 40, s_i 40, s_i 40,
  s_o 3 [some (14, 0), some (15, 0), some (16, 0), none, none, none, none, none, none, none, none, none, none, none], s_i 12, s_i 12, s_i 8,
  s_r 4 100, s_i 0, s_i 0, s_i 0, s_o 8 [some (22, 0), some (23, 0), some (24, 0), some (25, 0), none], s_i 100, s_i 100, s_i 100, s_i 100,
  s_r 5 60, s_i 0, s_i 0, s_i 0, s_i 0, s_i 0, s_i 0, s_i 0, s_i 8,
  s_o 5 [some (36, 0), some (37, 0), some (38, 0), none, some (39, 0), some (40, 0), some (41, 0), some (42, 0), some (43, 0), none], s_i 8, s_i 8, s_i 8, s_i 100, s_i 100, s_z 100, s_i 100, s_i 8,
  s_o 6 [some (45, 0), some (46, 0)], s_i 12, s_l 12, s_i 8]
def TX (nb na np g : Nat) : z_T → Option r_sh := fun t =>
  bif Nat.beq t.1 2 then bif Nat.blt t.2 nb then some (s_o 1 [none, none, none, none, none, none]) else none
  else bif Nat.beq t.1 18 then bif Nat.blt t.2 na then some (s_o 0 [some (19, t.2), some (20, t.2), none, none, none, none, none]) else none
  else bif Nat.beq t.1 19 then bif Nat.blt t.2 na then some (s_i 12) else none
  else bif Nat.beq t.1 20 then bif Nat.blt t.2 na then some (s_i 8) else none
  else bif Nat.beq t.1 27 then bif Nat.blt t.2 np then some (s_o 7 [none, none, none, some (28, t.2)]) else none
  else bif Nat.beq t.1 28 then bif Nat.blt t.2 np then some (s_i 8) else none
  else bif Nat.ble 30 t.1 && Nat.ble t.1 33 then bif Nat.ble t.2 g then some (s_i (64 * 2 ^ t.2)) else none
  else bif Nat.beq t.1 29 then bif Nat.beq t.2 0 then some (s_o 4 [some (30, g), some (31, g), some (32, g), some (33, g), some (34, 0), none]) else none
  else bif Nat.beq t.2 0 then XL[t.1]? else none
def ML : List r_sh := [
  s_i 12, s_i 12, s_i 12, s_i 12, s_i 12, s_i 12, s_i 12, s_i 8, s_l 12, s_i 12, s_z 12, s_i 12, s_i 8, s_i 12,
  s_i 0, s_i 0, s_i 0, s_i 0, s_i 0, s_i 0, s_i 0, s_i 0, s_i 0, s_i 220, s_i 0, s_i 0, s_i 0, s_i 0, s_i 60, s_i 60, s_i 60, s_i 60, s_i 60, s_i 60, s_i 60, s_i 60,
  s_i 1200, s_i 800, s_i 100, s_i 100, s_i 100, s_i 100, s_i 100, s_i 100, s_i 100, s_i 100, s_i 100, s_i 60, s_i 60, s_i 60, s_i 480, s_i 8, s_i 0, s_i 0, s_i 0, s_i 0, s_i 8, s_i 8, s_i 8, s_i 100, s_z 100]
/-- the model's object: its ints, its rows -/
def MO (g : Nat) : List (Option z_T) := [none, none, none, none, none, none, none, none,
  some (108, 0), some (109, 0), some (110, 0), some (111, 0), some (112, 0), some (113, 0), some (114, 0), some (115, 0), some (116, 0), some (117, 0), some (118, 0), some (119, 0), some (120, 0), some (121, 0),
  none, none, none, none, none, none, none, none, none, some (131, 0), none, none, none, none, some (136, 0), some (137, 0), some (138, 0), some (139, 0), some (140, 0), some (141, 0), some (142, 0), some (143, 0),
  some (144, 0), some (145, 0), some (146, 0), some (147, 0), some (148, 0), some (149, 0), some (150, 0), some (151, 0), some (152, 0), some (153, 0), some (154, 0), some (155, 0), some (156, 0), some (157, 0), some (158, 0), some (159, 0),
  some (160, g), some (161, g), some (162, g), some (163, g), some (164, 0), some (165, 0), some (166, 0), some (167, 0), some (168, 0)]
def mo_int (k : Nat) : Bool := Nat.blt k 22 || Nat.beq k 32 || (Nat.ble 24 k && Nat.blt k 31) || Nat.beq k 33
def TM (g : Nat) : z_T → Option r_sh := fun t =>
  bif Nat.beq t.1 100 then bif Nat.beq t.2 0 then some (s_o 12 (MO g)) else none
  else bif Nat.ble 160 t.1 && Nat.ble t.1 163 then bif Nat.ble t.2 g then some (s_i (256 * 2 ^ t.2)) else none
  else bif Nat.ble 108 t.1 && Nat.beq t.2 0 && !(Nat.ble 122 t.1 && Nat.ble t.1 130) && !(Nat.ble 132 t.1 && Nat.ble t.1 135) then ML[t.1 - 108]? else none
theorem tx_2 {nb na np g i : Nat} (h : i < nb) : TX nb na np g (2, i) = some (s_o 1 [none, none, none, none, none, none]) := by
  show (bif Nat.blt i nb then _ else _) = _
  rw [show Nat.blt i nb = true from Nat.ble_eq_true_of_le h]; rfl
theorem tx_18 {nb na np g i : Nat} (h : i < na) : TX nb na np g (18, i) = some (s_o 0 [some (19, i), some (20, i), none, none, none, none, none]) := by
  show (bif Nat.blt i na then _ else _) = _
  rw [show Nat.blt i na = true from Nat.ble_eq_true_of_le h]; rfl
theorem tx_19 {nb na np g i : Nat} (h : i < na) : TX nb na np g (19, i) = some (s_i 12) := by
  show (bif Nat.blt i na then _ else _) = _
  rw [show Nat.blt i na = true from Nat.ble_eq_true_of_le h]; rfl
theorem tx_20 {nb na np g i : Nat} (h : i < na) : TX nb na np g (20, i) = some (s_i 8) := by
  show (bif Nat.blt i na then _ else _) = _
  rw [show Nat.blt i na = true from Nat.ble_eq_true_of_le h]; rfl
theorem tx_27 {nb na np g i : Nat} (h : i < np) : TX nb na np g (27, i) = some (s_o 7 [none, none, none, some (28, i)]) := by
  show (bif Nat.blt i np then _ else _) = _
  rw [show Nat.blt i np = true from Nat.ble_eq_true_of_le h]; rfl
theorem tx_28 {nb na np g i : Nat} (h : i < np) : TX nb na np g (28, i) = some (s_i 8) := by
  show (bif Nat.blt i np then _ else _) = _
  rw [show Nat.blt i np = true from Nat.ble_eq_true_of_le h]; rfl
theorem blt_false {i n : Nat} (h : n ≤ i) : Nat.blt i n = false := by
  cases e : Nat.blt i n with
  | false => rfl
  | true => have := Nat.le_of_ble_eq_true e; omega
theorem ble_false {i n : Nat} (h : n < i) : Nat.ble i n = false := by
  cases e : Nat.ble i n with
  | false => rfl
  | true => have := Nat.le_of_ble_eq_true e; omega
theorem tt_1 : TX 3 2 1 0 (13, 0) = some (s_o 3 [some (14, 0), some (15, 0), some (16, 0), none, none, none, none, none, none, none, none, none, none, none]) := rfl
theorem tt_2 (g : Nat) : TM g (108, 0) = some (s_i 12) := rfl
theorem tt_3 (g : Nat) : TM g (168, 0) = some (s_z 100) := rfl
theorem tt_4 (g : Nat) : TM g (144, 0) = some (s_i 1200) := rfl
theorem tt_5 (g : Nat) : TM g (116, 0) = some (s_l 12) := rfl
theorem tt_6 : dX (18, 5) := Nat.le_of_ble_eq_true rfl
theorem tt_7 (i : Nat) : dX (18, i) := Nat.le_of_ble_eq_true rfl
theorem tt_8 (nb na np g : Nat) : TX nb na np g (47, 0) = some (s_i 8) := rfl
theorem tt_9 (g : Nat) : (MO g).length = 69 := rfl
theorem tt_10 : XL.length = 48 ∧ ML.length = 61 := ⟨rfl, rfl⟩
end
