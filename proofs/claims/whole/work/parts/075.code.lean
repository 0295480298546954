theorem am_i1 {w : Cond} (h : w ∈ tables_1_1) : w ∈ lw_tbl := List.mem_append_right _ (by unfold tables_1; simp only [List.mem_append, h, true_or, or_true])
theorem am_i2 {w : Cond} (h : w ∈ tables_1_2) : w ∈ lw_tbl := List.mem_append_right _ (by unfold tables_1; simp only [List.mem_append, h, true_or, or_true])
theorem am_i3 {w : Cond} (h : w ∈ tables_1_3) : w ∈ lw_tbl := List.mem_append_right _ (by unfold tables_1; simp only [List.mem_append, h, true_or, or_true])
theorem am_i4 {w : Cond} (h : w ∈ tables_1_4) : w ∈ lw_tbl := List.mem_append_right _ (by unfold tables_1; simp only [List.mem_append, h, true_or, or_true])
theorem am_i5 {w : Cond} (h : w ∈ tables_1_5) : w ∈ lw_tbl := List.mem_append_right _ (by unfold tables_1; simp only [List.mem_append, h, true_or, or_true])
theorem am_i6 {w : Cond} (h : w ∈ tables_1_6) : w ∈ lw_tbl := List.mem_append_right _ (by unfold tables_1; simp only [List.mem_append, h, true_or, or_true])
theorem am_i7 {w : Cond} (h : w ∈ tables_1_7) : w ∈ lw_tbl := List.mem_append_right _ (by unfold tables_1; simp only [List.mem_append, h, true_or, or_true])
def am_cq (mid : Nat) : Prop := match am_md[mid]?, am_mn[mid]? with
  | some q, some y => (Cond.code y q.2.1 q.2.2.1 q.2.2.2.1) ∈ lw_tbl
  | _, _ => False
theorem am_cd_0 : am_cq 0 := am_i1 (w := (Cond.code ({ cls := "PaperRiver", name := "<init>", desc := "()V" } : Jvm.MethodName) prog_1_method_1_code (1 : Nat) (Option.none : Option Jvm.ClassFile.FieldType))) (List.mem_of_getElem? (i := 26) rfl)
theorem am_cd_1 : am_cq 1 := am_i1 (w := (Cond.code ({ cls := "java/lang/Object", name := "<init>", desc := "()V" } : Jvm.MethodName) object_method_1_code (1 : Nat) (Option.none : Option Jvm.ClassFile.FieldType))) (List.mem_of_getElem? (i := 29) rfl)
theorem am_cd_2 : am_cq 2 := am_i1 (w := (Cond.code ({ cls := "PaperRiver$Tape", name := "<init>", desc := "()V" } : Jvm.MethodName) prog_10_method_1_code (1 : Nat) (Option.none : Option Jvm.ClassFile.FieldType))) (List.mem_of_getElem? (i := 34) rfl)
theorem am_cd_3 : am_cq 3 := am_i1 (w := (Cond.code ({ cls := "PaperRiver$RiverText", name := "<init>", desc := "()V" } : Jvm.MethodName) prog_7_method_1_code (1 : Nat) (Option.none : Option Jvm.ClassFile.FieldType))) (List.mem_of_getElem? (i := 65) rfl)
theorem am_cd_4 : am_cq 4 := am_i1 (w := (Cond.code ({ cls := "PaperRiver$Bed", name := "<init>", desc := "()V" } : Jvm.MethodName) prog_2_method_1_code (1 : Nat) (Option.none : Option Jvm.ClassFile.FieldType))) (List.mem_of_getElem? (i := 71) rfl)
theorem am_cd_5 : am_cq 5 := am_i1 (w := (Cond.code ({ cls := "PaperRiver$Water", name := "<init>", desc := "()V" } : Jvm.MethodName) prog_11_method_1_code (1 : Nat) (Option.none : Option Jvm.ClassFile.FieldType))) (List.mem_of_getElem? (i := 121) rfl)
theorem am_cd_6 : am_cq 6 := am_i1 (w := (Cond.code ({ cls := "PaperRiver$RuleText", name := "<init>", desc := "()V" } : Jvm.MethodName) prog_8_method_1_code (1 : Nat) (Option.none : Option Jvm.ClassFile.FieldType))) (List.mem_of_getElem? (i := 203) rfl)
theorem am_cd_7 : am_cq 7 := am_i1 (w := (Cond.code ({ cls := "PaperRiver$World", name := "<init>", desc := "()V" } : Jvm.MethodName) prog_12_method_1_code (1 : Nat) (Option.none : Option Jvm.ClassFile.FieldType))) (List.mem_of_getElem? (i := 221) rfl)
theorem am_cd_8 : am_cq 8 := am_i1 (w := (Cond.code ({ cls := "PaperRiver$Past", name := "<init>", desc := "()V" } : Jvm.MethodName) prog_6_method_1_code (1 : Nat) (Option.none : Option Jvm.ClassFile.FieldType))) (List.mem_of_getElem? (i := 231) rfl)
theorem am_cd_9 : am_cq 9 := am_i2 (w := (Cond.code ({ cls := "PaperRiver$Stream", name := "<init>", desc := "()V" } : Jvm.MethodName) prog_9_method_1_code (1 : Nat) (Option.none : Option Jvm.ClassFile.FieldType))) (List.mem_of_getElem? (i := 36) rfl)
theorem am_cd_10 : am_cq 10 := am_i2 (w := (Cond.code ({ cls := "PaperRiver$NetSearch", name := "<init>", desc := "()V" } : Jvm.MethodName) prog_4_method_1_code (1 : Nat) (Option.none : Option Jvm.ClassFile.FieldType))) (List.mem_of_getElem? (i := 78) rfl)
theorem am_cd_11 : am_cq 11 := am_i2 (w := (Cond.code ({ cls := "PaperRiver$Orders", name := "<init>", desc := "()V" } : Jvm.MethodName) prog_5_method_1_code (1 : Nat) (Option.none : Option Jvm.ClassFile.FieldType))) (List.mem_of_getElem? (i := 91) rfl)
theorem am_cd_12 : am_cq 12 := am_i2 (w := (Cond.code ({ cls := "PaperRiver", name := "feed", desc := "(IIIII)I" } : Jvm.MethodName) prog_1_method_2_code (6 : Nat) (Option.some Jvm.ClassFile.FieldType.int))) (List.mem_of_getElem? (i := 143) rfl)
theorem am_cd_13 : am_cq 13 := am_i2 (w := (Cond.code ({ cls := "PaperRiver$Tape", name := "add", desc := "(I)V" } : Jvm.MethodName) prog_10_method_2_code (3 : Nat) (Option.none : Option Jvm.ClassFile.FieldType))) (List.mem_of_getElem? (i := 147) rfl)
theorem am_cd_14 : am_cq 14 := am_i2 (w := (Cond.code ({ cls := "PaperRiver", name := "end", desc := "(I)I" } : Jvm.MethodName) prog_1_method_3_code (2 : Nat) (Option.some Jvm.ClassFile.FieldType.int))) (List.mem_of_getElem? (i := 151) rfl)
theorem am_cd_15 : am_cq 15 := am_i2 (w := (Cond.code ({ cls := "PaperRiver", name := "river", desc := "()I" } : Jvm.MethodName) prog_1_method_4_code (2 : Nat) (Option.some Jvm.ClassFile.FieldType.int))) (List.mem_of_getElem? (i := 155) rfl)
theorem am_cd_16 : am_cq 16 := am_i2 (w := (Cond.code ({ cls := "PaperRiver$RiverText", name := "read", desc := "(LPaperRiver$Tape;)I" } : Jvm.MethodName) prog_7_method_2_code (3 : Nat) (Option.some Jvm.ClassFile.FieldType.int))) (List.mem_of_getElem? (i := 159) rfl)
theorem am_cd_17 : am_cq 17 := am_i2 (w := (Cond.code ({ cls := "PaperRiver$Tape", name := "rewind", desc := "()V" } : Jvm.MethodName) prog_10_method_3_code (1 : Nat) (Option.none : Option Jvm.ClassFile.FieldType))) (List.mem_of_getElem? (i := 163) rfl)
theorem am_cd_18 : am_cq 18 := am_i2 (w := (Cond.code ({ cls := "PaperRiver$Bed", name := "start", desc := "(I)V" } : Jvm.MethodName) prog_2_method_2_code (3 : Nat) (Option.none : Option Jvm.ClassFile.FieldType))) (List.mem_of_getElem? (i := 167) rfl)
theorem am_cd_19 : am_cq 19 := am_i2 (w := (Cond.code ({ cls := "PaperRiver$Water", name := "start", desc := "()V" } : Jvm.MethodName) prog_11_method_2_code (1 : Nat) (Option.none : Option Jvm.ClassFile.FieldType))) (List.mem_of_getElem? (i := 171) rfl)
theorem am_cd_20 : am_cq 20 := am_i2 (w := (Cond.code ({ cls := "java/util/Arrays", name := "fill", desc := "([II)V" } : Jvm.MethodName) prog_22_method_103_code (4 : Nat) (Option.none : Option Jvm.ClassFile.FieldType))) (List.mem_of_getElem? (i := 174) rfl)
theorem am_cd_21 : am_cq 21 := am_i2 (w := (Cond.code ({ cls := "PaperRiver$RiverText", name := "readClause", desc := "(LPaperRiver$Tape;I)Z" } : Jvm.MethodName) prog_7_method_3_code (4 : Nat) (Option.some Jvm.ClassFile.FieldType.boolean))) (List.mem_of_getElem? (i := 178) rfl)
theorem am_cd_22 : am_cq 22 := am_i2 (w := (Cond.code ({ cls := "PaperRiver$Tape", name := "readWord", desc := "(Ljava/lang/String;)I" } : Jvm.MethodName) prog_10_method_11_code (5 : Nat) (Option.some Jvm.ClassFile.FieldType.int))) (List.mem_of_getElem? (i := 183) rfl)
theorem am_cd_23 : am_cq 23 := am_i2 (w := (Cond.code ({ cls := "PaperRiver$Tape", name := "peek", desc := "()I" } : Jvm.MethodName) prog_10_method_6_code (1 : Nat) (Option.some Jvm.ClassFile.FieldType.int))) (List.mem_of_getElem? (i := 187) rfl)
theorem am_cd_24 : am_cq 24 := am_i2 (w := (Cond.code ({ cls := "java/lang/String", name := "length", desc := "()I" } : Jvm.MethodName) prog_18_method_54_code (1 : Nat) (Option.some Jvm.ClassFile.FieldType.int))) (List.mem_of_getElem? (i := 191) rfl)
theorem am_cd_25 : am_cq 25 := am_i2 (w := (Cond.code ({ cls := "java/lang/String", name := "coder", desc := "()B" } : Jvm.MethodName) prog_18_method_152_code (1 : Nat) (Option.some Jvm.ClassFile.FieldType.byte))) (List.mem_of_getElem? (i := 195) rfl)
theorem am_cd_26 : am_cq 26 := am_i2 (w := (Cond.code ({ cls := "java/lang/String", name := "charAt", desc := "(I)C" } : Jvm.MethodName) prog_18_method_56_code (2 : Nat) (Option.some Jvm.ClassFile.FieldType.char))) (List.mem_of_getElem? (i := 201) rfl)
theorem am_cd_27 : am_cq 27 := am_i2 (w := (Cond.code ({ cls := "java/lang/String", name := "isLatin1", desc := "()Z" } : Jvm.MethodName) prog_18_method_154_code (1 : Nat) (Option.some Jvm.ClassFile.FieldType.boolean))) (List.mem_of_getElem? (i := 205) rfl)
theorem am_cd_28 : am_cq 28 := am_i2 (w := (Cond.code ({ cls := "java/lang/StringLatin1", name := "charAt", desc := "([BI)C" } : Jvm.MethodName) prog_19_method_2_code (2 : Nat) (Option.some Jvm.ClassFile.FieldType.char))) (List.mem_of_getElem? (i := 208) rfl)
theorem am_cd_29 : am_cq 29 := am_i2 (w := (Cond.code ({ cls := "java/lang/String", name := "checkIndex", desc := "(II)V" } : Jvm.MethodName) prog_18_method_155_code (2 : Nat) (Option.none : Option Jvm.ClassFile.FieldType))) (List.mem_of_getElem? (i := 211) rfl)
theorem am_cd_30 : am_cq 30 := am_i2 (w := (Cond.code ({ cls := "jdk/internal/util/Preconditions", name := "checkIndex", desc := "(IILjava/util/function/BiFunction;)I" } : Jvm.MethodName) prog_23_method_11_code (3 : Nat) (Option.some Jvm.ClassFile.FieldType.int))) (List.mem_of_getElem? (i := 216) rfl)
theorem am_cd_31 : am_cq 31 := am_i2 (w := (Cond.code ({ cls := "java/lang/StringUTF16", name := "charAt", desc := "([BI)C" } : Jvm.MethodName) prog_20_method_83_code (2 : Nat) (Option.some Jvm.ClassFile.FieldType.char))) (List.mem_of_getElem? (i := 219) rfl)
theorem am_cd_32 : am_cq 32 := am_i2 (w := (Cond.code ({ cls := "java/lang/StringUTF16", name := "checkIndex", desc := "(I[B)V" } : Jvm.MethodName) prog_20_method_91_code (2 : Nat) (Option.none : Option Jvm.ClassFile.FieldType))) (List.mem_of_getElem? (i := 222) rfl)
theorem am_cd_33 : am_cq 33 := am_i2 (w := (Cond.code ({ cls := "java/lang/StringUTF16", name := "length", desc := "([B)I" } : Jvm.MethodName) prog_20_method_6_code (1 : Nat) (Option.some Jvm.ClassFile.FieldType.int))) (List.mem_of_getElem? (i := 225) rfl)
theorem am_cd_34 : am_cq 34 := am_i2 (w := (Cond.code ({ cls := "java/lang/StringUTF16", name := "getChar", desc := "([BI)C" } : Jvm.MethodName) prog_20_method_5_code (2 : Nat) (Option.some Jvm.ClassFile.FieldType.char))) (List.mem_of_getElem? (i := 229) rfl)
theorem am_cd_35 : am_cq 35 := am_i2 (w := (Cond.code ({ cls := "PaperRiver$Tape", name := "standsHere", desc := "(Ljava/lang/String;II)Z" } : Jvm.MethodName) prog_10_method_13_code (6 : Nat) (Option.some Jvm.ClassFile.FieldType.boolean))) (List.mem_of_getElem? (i := 239) rfl)
theorem am_cd_36 : am_cq 36 := am_i3 (w := (Cond.code ({ cls := "PaperRiver$Tape", name := "wrong", desc := "(II)Z" } : Jvm.MethodName) prog_10_method_4_code (3 : Nat) (Option.some Jvm.ClassFile.FieldType.boolean))) (List.mem_of_getElem? (i := 3) rfl)
theorem am_cd_37 : am_cq 37 := am_i3 (w := (Cond.code ({ cls := "PaperRiver$RiverText", name := "isFull", desc := "(I)Z" } : Jvm.MethodName) prog_7_method_9_code (2 : Nat) (Option.some Jvm.ClassFile.FieldType.boolean))) (List.mem_of_getElem? (i := 7) rfl)
theorem am_cd_38 : am_cq 38 := am_i3 (w := (Cond.code ({ cls := "PaperRiver$Water", name := "countNets", desc := "()I" } : Jvm.MethodName) prog_11_method_15_code (3 : Nat) (Option.some Jvm.ClassFile.FieldType.int))) (List.mem_of_getElem? (i := 11) rfl)
theorem am_cd_39 : am_cq 39 := am_i3 (w := (Cond.code ({ cls := "PaperRiver$RiverText", name := "readRiver", desc := "(LPaperRiver$Tape;)Z" } : Jvm.MethodName) prog_7_method_4_code (3 : Nat) (Option.some Jvm.ClassFile.FieldType.boolean))) (List.mem_of_getElem? (i := 16) rfl)
theorem am_cd_40 : am_cq 40 := am_i3 (w := (Cond.code ({ cls := "PaperRiver$Tape", name := "readNumberFrom", desc := "(II)I" } : Jvm.MethodName) prog_10_method_9_code (4 : Nat) (Option.some Jvm.ClassFile.FieldType.int))) (List.mem_of_getElem? (i := 20) rfl)
theorem am_cd_41 : am_cq 41 := am_i3 (w := (Cond.code ({ cls := "PaperRiver$Tape", name := "readNumber", desc := "()I" } : Jvm.MethodName) prog_10_method_8_code (3 : Nat) (Option.some Jvm.ClassFile.FieldType.int))) (List.mem_of_getElem? (i := 24) rfl)
theorem am_cd_42 : am_cq 42 := am_i3 (w := (Cond.code ({ cls := "PaperRiver$RiverText", name := "readOfCell", desc := "(LPaperRiver$Tape;I)Z" } : Jvm.MethodName) prog_7_method_5_code (5 : Nat) (Option.some Jvm.ClassFile.FieldType.boolean))) (List.mem_of_getElem? (i := 28) rfl)
theorem am_cd_43 : am_cq 43 := am_i3 (w := (Cond.code ({ cls := "PaperRiver$RiverText", name := "isTaken", desc := "(II)Z" } : Jvm.MethodName) prog_7_method_8_code (3 : Nat) (Option.some Jvm.ClassFile.FieldType.boolean))) (List.mem_of_getElem? (i := 32) rfl)
theorem am_cd_44 : am_cq 44 := am_i3 (w := (Cond.code ({ cls := "PaperRiver$RiverText", name := "readSecond", desc := "(LPaperRiver$Tape;I)I" } : Jvm.MethodName) prog_7_method_6_code (3 : Nat) (Option.some Jvm.ClassFile.FieldType.int))) (List.mem_of_getElem? (i := 36) rfl)
theorem am_cd_45 : am_cq 45 := am_i3 (w := (Cond.code ({ cls := "PaperRiver$Tape", name := "readLetters", desc := "(I)I" } : Jvm.MethodName) prog_10_method_10_code (4 : Nat) (Option.some Jvm.ClassFile.FieldType.int))) (List.mem_of_getElem? (i := 40) rfl)
theorem am_cd_46 : am_cq 46 := am_i3 (w := (Cond.code ({ cls := "PaperRiver$Tape", name := "isSmall", desc := "(I)Z" } : Jvm.MethodName) prog_10_method_5_code (2 : Nat) (Option.some Jvm.ClassFile.FieldType.boolean))) (List.mem_of_getElem? (i := 44) rfl)
theorem am_cd_47 : am_cq 47 := am_i3 (w := (Cond.code ({ cls := "PaperRiver$RiverText", name := "tell", desc := "(III)V" } : Jvm.MethodName) prog_7_method_7_code (4 : Nat) (Option.none : Option Jvm.ClassFile.FieldType))) (List.mem_of_getElem? (i := 48) rfl)
theorem am_cd_48 : am_cq 48 := am_i3 (w := (Cond.code ({ cls := "PaperRiver$Bed", name := "addMill", desc := "(II)V" } : Jvm.MethodName) prog_2_method_4_code (3 : Nat) (Option.none : Option Jvm.ClassFile.FieldType))) (List.mem_of_getElem? (i := 52) rfl)
theorem am_cd_49 : am_cq 49 := am_i3 (w := (Cond.code ({ cls := "PaperRiver$Bed", name := "addDam", desc := "(I)V" } : Jvm.MethodName) prog_2_method_5_code (2 : Nat) (Option.none : Option Jvm.ClassFile.FieldType))) (List.mem_of_getElem? (i := 56) rfl)
theorem am_cd_50 : am_cq 50 := am_i3 (w := (Cond.code ({ cls := "PaperRiver$Water", name := "addScrap", desc := "(II)I" } : Jvm.MethodName) prog_11_method_4_code (4 : Nat) (Option.some Jvm.ClassFile.FieldType.int))) (List.mem_of_getElem? (i := 60) rfl)
theorem am_cd_51 : am_cq 51 := am_i3 (w := (Cond.code ({ cls := "PaperRiver$Water", name := "write", desc := "(II)V" } : Jvm.MethodName) prog_11_method_5_code (5 : Nat) (Option.none : Option Jvm.ClassFile.FieldType))) (List.mem_of_getElem? (i := 64) rfl)
theorem am_cd_52 : am_cq 52 := am_i3 (w := (Cond.code ({ cls := "PaperRiver$Tape", name := "goesOn", desc := "()Z" } : Jvm.MethodName) prog_10_method_7_code (2 : Nat) (Option.some Jvm.ClassFile.FieldType.boolean))) (List.mem_of_getElem? (i := 68) rfl)
theorem am_cd_53 : am_cq 53 := am_i3 (w := (Cond.code ({ cls := "PaperRiver$Bed", name := "takeFrom", desc := "(LPaperRiver$Bed;)V" } : Jvm.MethodName) prog_2_method_3_code (2 : Nat) (Option.none : Option Jvm.ClassFile.FieldType))) (List.mem_of_getElem? (i := 72) rfl)
theorem am_cd_54 : am_cq 54 := am_i3 (w := (Cond.code ({ cls := "PaperRiver$Water", name := "takeFrom", desc := "(LPaperRiver$Water;)V" } : Jvm.MethodName) prog_11_method_3_code (2 : Nat) (Option.none : Option Jvm.ClassFile.FieldType))) (List.mem_of_getElem? (i := 79) rfl)
theorem am_cd_55 : am_cq 55 := am_i3 (w := (Cond.code ({ cls := "PaperRiver$Past", name := "forget", desc := "()V" } : Jvm.MethodName) prog_6_method_2_code (1 : Nat) (Option.none : Option Jvm.ClassFile.FieldType))) (List.mem_of_getElem? (i := 84) rfl)
theorem am_cd_56 : am_cq 56 := am_i3 (w := (Cond.code ({ cls := "PaperRiver", name := "rule", desc := "()I" } : Jvm.MethodName) prog_1_method_5_code (2 : Nat) (Option.some Jvm.ClassFile.FieldType.int))) (List.mem_of_getElem? (i := 89) rfl)
theorem am_cd_57 : am_cq 57 := am_i3 (w := (Cond.code ({ cls := "PaperRiver$RuleText", name := "read", desc := "(LPaperRiver$Tape;)I" } : Jvm.MethodName) prog_8_method_3_code (3 : Nat) (Option.some Jvm.ClassFile.FieldType.int))) (List.mem_of_getElem? (i := 93) rfl)
theorem am_cd_58 : am_cq 58 := am_i3 (w := (Cond.code ({ cls := "PaperRiver$RuleText", name := "readTest", desc := "(LPaperRiver$Tape;I)Z" } : Jvm.MethodName) prog_8_method_6_code (6 : Nat) (Option.some Jvm.ClassFile.FieldType.boolean))) (List.mem_of_getElem? (i := 101) rfl)
theorem am_cd_59 : am_cq 59 := am_i3 (w := (Cond.code ({ cls := "PaperRiver$RuleText", name := "readFact", desc := "(LPaperRiver$Tape;I)Z" } : Jvm.MethodName) prog_8_method_7_code (4 : Nat) (Option.some Jvm.ClassFile.FieldType.boolean))) (List.mem_of_getElem? (i := 105) rfl)
theorem am_cd_60 : am_cq 60 := am_i3 (w := (Cond.code ({ cls := "PaperRiver$RuleText", name := "readBrackets", desc := "(LPaperRiver$Tape;I)Z" } : Jvm.MethodName) prog_8_method_8_code (3 : Nat) (Option.some Jvm.ClassFile.FieldType.boolean))) (List.mem_of_getElem? (i := 110) rfl)
theorem am_cd_61 : am_cq 61 := am_i3 (w := (Cond.code ({ cls := "PaperRiver$Tape", name := "takes", desc := "(Ljava/lang/String;)Z" } : Jvm.MethodName) prog_10_method_12_code (2 : Nat) (Option.some Jvm.ClassFile.FieldType.boolean))) (List.mem_of_getElem? (i := 115) rfl)
theorem am_cd_62 : am_cq 62 := am_i3 (w := (Cond.code ({ cls := "PaperRiver$RuleText", name := "write", desc := "(I)V" } : Jvm.MethodName) prog_8_method_4_code (2 : Nat) (Option.none : Option Jvm.ClassFile.FieldType))) (List.mem_of_getElem? (i := 119) rfl)
theorem am_cd_63 : am_cq 63 := am_i3 (w := (Cond.code ({ cls := "PaperRiver$RuleText", name := "readSum", desc := "(LPaperRiver$Tape;)Z" } : Jvm.MethodName) prog_8_method_10_code (5 : Nat) (Option.some Jvm.ClassFile.FieldType.boolean))) (List.mem_of_getElem? (i := 123) rfl)
theorem am_cd_64 : am_cq 64 := am_i3 (w := (Cond.code ({ cls := "PaperRiver$RuleText", name := "readValue", desc := "(LPaperRiver$Tape;)Z" } : Jvm.MethodName) prog_8_method_13_code (5 : Nat) (Option.some Jvm.ClassFile.FieldType.boolean))) (List.mem_of_getElem? (i := 127) rfl)
theorem am_cd_65 : am_cq 65 := am_i3 (w := (Cond.code ({ cls := "PaperRiver$RuleText", name := "countPiece", desc := "(LPaperRiver$Tape;I)Z" } : Jvm.MethodName) prog_8_method_5_code (3 : Nat) (Option.some Jvm.ClassFile.FieldType.boolean))) (List.mem_of_getElem? (i := 133) rfl)
theorem am_cd_66 : am_cq 66 := am_i3 (w := (Cond.code ({ cls := "PaperRiver$RuleText", name := "timesSign", desc := "(I)I" } : Jvm.MethodName) prog_8_method_11_code (1 : Nat) (Option.some Jvm.ClassFile.FieldType.int))) (List.mem_of_getElem? (i := 136) rfl)
theorem am_cd_67 : am_cq 67 := am_i3 (w := (Cond.code ({ cls := "PaperRiver$RuleText", name := "addSign", desc := "(I)I" } : Jvm.MethodName) prog_8_method_12_code (1 : Nat) (Option.some Jvm.ClassFile.FieldType.int))) (List.mem_of_getElem? (i := 139) rfl)
theorem am_cd_68 : am_cq 68 := am_i3 (w := (Cond.code ({ cls := "PaperRiver$RuleText", name := "readSign", desc := "(LPaperRiver$Tape;)I" } : Jvm.MethodName) prog_8_method_9_code (5 : Nat) (Option.some Jvm.ClassFile.FieldType.int))) (List.mem_of_getElem? (i := 143) rfl)
theorem am_cd_69 : am_cq 69 := am_i3 (w := (Cond.code ({ cls := "PaperRiver$RuleText", name := "toLaw", desc := "()LPaperRiver$Law;" } : Jvm.MethodName) prog_8_method_2_code (1 : Nat) (Option.some (Jvm.ClassFile.FieldType.object "PaperRiver$Law")))) (List.mem_of_getElem? (i := 150) rfl)
theorem am_cd_70 : am_cq 70 := am_i3 (w := (Cond.code ({ cls := "java/util/Arrays", name := "copyOf", desc := "([II)[I" } : Jvm.MethodName) prog_22_method_123_code (3 : Nat) (Option.some (Jvm.ClassFile.FieldType.array Jvm.ClassFile.FieldType.int)))) (List.mem_of_getElem? (i := 155) rfl)
theorem am_cd_71 : am_cq 71 := am_i3 (w := (Cond.code ({ cls := "java/lang/Math", name := "min", desc := "(II)I" } : Jvm.MethodName) prog_17_method_69_code (2 : Nat) (Option.some Jvm.ClassFile.FieldType.int))) (List.mem_of_getElem? (i := 165) rfl)
theorem am_cd_72 : am_cq 72 := am_i3 (w := (Cond.code ({ cls := "PaperRiver$Law", name := "<init>", desc := "([I)V" } : Jvm.MethodName) prog_3_method_1_code (2 : Nat) (Option.none : Option Jvm.ClassFile.FieldType))) (List.mem_of_getElem? (i := 169) rfl)
theorem am_cd_73 : am_cq 73 := am_i3 (w := (Cond.code ({ cls := "PaperRiver", name := "force", desc := "(I)I" } : Jvm.MethodName) prog_1_method_6_code (3 : Nat) (Option.some Jvm.ClassFile.FieldType.int))) (List.mem_of_getElem? (i := 178) rfl)
theorem am_cd_74 : am_cq 74 := am_i3 (w := (Cond.code ({ cls := "PaperRiver", name := "cell", desc := "(II)I" } : Jvm.MethodName) prog_1_method_7_code (3 : Nat) (Option.some Jvm.ClassFile.FieldType.int))) (List.mem_of_getElem? (i := 182) rfl)
theorem am_cd_75 : am_cq 75 := am_i3 (w := (Cond.code ({ cls := "PaperRiver", name := "isCell", desc := "(I)Z" } : Jvm.MethodName) prog_1_method_30_code (2 : Nat) (Option.some Jvm.ClassFile.FieldType.boolean))) (List.mem_of_getElem? (i := 186) rfl)
theorem am_cd_76 : am_cq 76 := am_i3 (w := (Cond.code ({ cls := "PaperRiver$Bed", name := "printedIn", desc := "(I)I" } : Jvm.MethodName) prog_2_method_6_code (3 : Nat) (Option.some Jvm.ClassFile.FieldType.int))) (List.mem_of_getElem? (i := 190) rfl)
theorem am_cd_77 : am_cq 77 := am_i3 (w := (Cond.code ({ cls := "PaperRiver", name := "damState", desc := "(I)I" } : Jvm.MethodName) prog_1_method_34_code (3 : Nat) (Option.some Jvm.ClassFile.FieldType.int))) (List.mem_of_getElem? (i := 194) rfl)
theorem am_cd_78 : am_cq 78 := am_i3 (w := (Cond.code ({ cls := "PaperRiver$Water", name := "scrapsIn", desc := "(I)I" } : Jvm.MethodName) prog_11_method_11_code (4 : Nat) (Option.some Jvm.ClassFile.FieldType.int))) (List.mem_of_getElem? (i := 198) rfl)
theorem am_cd_79 : am_cq 79 := am_i3 (w := (Cond.code ({ cls := "PaperRiver", name := "scrap", desc := "(II)I" } : Jvm.MethodName) prog_1_method_8_code (4 : Nat) (Option.some Jvm.ClassFile.FieldType.int))) (List.mem_of_getElem? (i := 202) rfl)
theorem am_cd_80 : am_cq 80 := am_i3 (w := (Cond.code ({ cls := "PaperRiver", name := "isScrap", desc := "(I)Z" } : Jvm.MethodName) prog_1_method_31_code (2 : Nat) (Option.some Jvm.ClassFile.FieldType.boolean))) (List.mem_of_getElem? (i := 206) rfl)
theorem am_cd_81 : am_cq 81 := am_i3 (w := (Cond.code ({ cls := "PaperRiver", name := "day", desc := "()I" } : Jvm.MethodName) prog_1_method_9_code (1 : Nat) (Option.some Jvm.ClassFile.FieldType.int))) (List.mem_of_getElem? (i := 210) rfl)
theorem am_cd_82 : am_cq 82 := am_i3 (w := (Cond.code ({ cls := "PaperRiver", name := "hasRiver", desc := "()Z" } : Jvm.MethodName) prog_1_method_29_code (1 : Nat) (Option.some Jvm.ClassFile.FieldType.boolean))) (List.mem_of_getElem? (i := 214) rfl)
theorem am_cd_83 : am_cq 83 := am_i3 (w := (Cond.code ({ cls := "PaperRiver$Past", name := "keep", desc := "(LPaperRiver$Water;)V" } : Jvm.MethodName) prog_6_method_3_code (3 : Nat) (Option.none : Option Jvm.ClassFile.FieldType))) (List.mem_of_getElem? (i := 218) rfl)
theorem am_cd_84 : am_cq 84 := am_i3 (w := (Cond.code ({ cls := "PaperRiver", name := "lawInForce", desc := "()LPaperRiver$Law;" } : Jvm.MethodName) prog_1_method_33_code (1 : Nat) (Option.some (Jvm.ClassFile.FieldType.object "PaperRiver$Law")))) (List.mem_of_getElem? (i := 224) rfl)
theorem am_cd_85 : am_cq 85 := am_i3 (w := (Cond.code ({ cls := "PaperRiver$Stream", name := "begin", desc := "(LPaperRiver$Bed;LPaperRiver$Water;LPaperRiver$Law;)V" } : Jvm.MethodName) prog_9_method_2_code (4 : Nat) (Option.none : Option Jvm.ClassFile.FieldType))) (List.mem_of_getElem? (i := 228) rfl)
theorem am_cd_86 : am_cq 86 := am_i3 (w := (Cond.code ({ cls := "PaperRiver$Stream", name := "passDay", desc := "()V" } : Jvm.MethodName) prog_9_method_8_code (5 : Nat) (Option.none : Option Jvm.ClassFile.FieldType))) (List.mem_of_getElem? (i := 232) rfl)
theorem am_cd_87 : am_cq 87 := am_i3 (w := (Cond.code ({ cls := "PaperRiver$Stream", name := "drift", desc := "(I)V" } : Jvm.MethodName) prog_9_method_9_code (6 : Nat) (Option.none : Option Jvm.ClassFile.FieldType))) (List.mem_of_getElem? (i := 236) rfl)
theorem am_cd_88 : am_cq 88 := am_i4 (w := (Cond.code ({ cls := "PaperRiver$Water", name := "leave", desc := "(III)V" } : Jvm.MethodName) prog_11_method_8_code (4 : Nat) (Option.none : Option Jvm.ClassFile.FieldType))) (List.mem_of_getElem? (i := 0) rfl)
theorem am_cd_89 : am_cq 89 := am_i4 (w := (Cond.code ({ cls := "PaperRiver$Water", name := "printBehind", desc := "(II)V" } : Jvm.MethodName) prog_11_method_6_code (3 : Nat) (Option.none : Option Jvm.ClassFile.FieldType))) (List.mem_of_getElem? (i := 4) rfl)
theorem am_cd_90 : am_cq 90 := am_i4 (w := (Cond.code ({ cls := "PaperRiver$Water", name := "cellsWith", desc := "(I)I" } : Jvm.MethodName) prog_11_method_13_code (6 : Nat) (Option.some Jvm.ClassFile.FieldType.int))) (List.mem_of_getElem? (i := 8) rfl)
theorem am_cd_91 : am_cq 91 := am_i4 (w := (Cond.code ({ cls := "PaperRiver$Stream", name := "joinFirst", desc := "(I)Z" } : Jvm.MethodName) prog_9_method_10_code (5 : Nat) (Option.some Jvm.ClassFile.FieldType.boolean))) (List.mem_of_getElem? (i := 12) rfl)
theorem am_cd_92 : am_cq 92 := am_i4 (w := (Cond.code ({ cls := "java/lang/Integer", name := "bitCount", desc := "(I)I" } : Jvm.MethodName) prog_16_method_49_code (1 : Nat) (Option.some Jvm.ClassFile.FieldType.int))) (List.mem_of_getElem? (i := 16) rfl)
theorem am_cd_93 : am_cq 93 := am_i4 (w := (Cond.code ({ cls := "PaperRiver$Stream", name := "mayJoin", desc := "(III)Z" } : Jvm.MethodName) prog_9_method_11_code (4 : Nat) (Option.some Jvm.ClassFile.FieldType.boolean))) (List.mem_of_getElem? (i := 23) rfl)
theorem am_cd_94 : am_cq 94 := am_i4 (w := (Cond.code ({ cls := "PaperRiver$Water", name := "lastLetter", desc := "(I)I" } : Jvm.MethodName) prog_11_method_10_code (2 : Nat) (Option.some Jvm.ClassFile.FieldType.int))) (List.mem_of_getElem? (i := 27) rfl)
theorem am_cd_95 : am_cq 95 := am_i4 (w := (Cond.code ({ cls := "PaperRiver$Water", name := "firstLetter", desc := "(I)I" } : Jvm.MethodName) prog_11_method_9_code (3 : Nat) (Option.some Jvm.ClassFile.FieldType.int))) (List.mem_of_getElem? (i := 31) rfl)
theorem am_cd_96 : am_cq 96 := am_i4 (w := (Cond.code ({ cls := "PaperRiver$Law", name := "holds", desc := "([J[J)Z" } : Jvm.MethodName) prog_3_method_2_code (6 : Nat) (Option.some Jvm.ClassFile.FieldType.boolean))) (List.mem_of_getElem? (i := 37) rfl)
theorem am_cd_97 : am_cq 97 := am_i4 (w := (Cond.code ({ cls := "PaperRiver$Law", name := "reckon", desc := "(IJJ)J" } : Jvm.MethodName) prog_3_method_3_code (5 : Nat) (Option.some Jvm.ClassFile.FieldType.long))) (List.mem_of_getElem? (i := 40) rfl)
theorem am_cd_98 : am_cq 98 := am_i4 (w := (Cond.code ({ cls := "PaperRiver$Water", name := "join", desc := "(II)V" } : Jvm.MethodName) prog_11_method_7_code (3 : Nat) (Option.none : Option Jvm.ClassFile.FieldType))) (List.mem_of_getElem? (i := 44) rfl)
theorem am_cd_99 : am_cq 99 := am_i4 (w := (Cond.code ({ cls := "PaperRiver$Stream", name := "catchAll", desc := "()V" } : Jvm.MethodName) prog_9_method_12_code (3 : Nat) (Option.none : Option Jvm.ClassFile.FieldType))) (List.mem_of_getElem? (i := 49) rfl)
theorem am_cd_100 : am_cq 100 := am_i4 (w := (Cond.code ({ cls := "PaperRiver$Stream", name := "skipDays", desc := "(I)V" } : Jvm.MethodName) prog_9_method_5_code (2 : Nat) (Option.none : Option Jvm.ClassFile.FieldType))) (List.mem_of_getElem? (i := 53) rfl)
theorem am_cd_101 : am_cq 101 := am_i4 (w := (Cond.code ({ cls := "PaperRiver", name := "drop", desc := "(II)I" } : Jvm.MethodName) prog_1_method_10_code (3 : Nat) (Option.some Jvm.ClassFile.FieldType.int))) (List.mem_of_getElem? (i := 58) rfl)
theorem am_cd_102 : am_cq 102 := am_i4 (w := (Cond.code ({ cls := "PaperRiver", name := "lettersOf", desc := "(I)I" } : Jvm.MethodName) prog_1_method_35_code (4 : Nat) (Option.some Jvm.ClassFile.FieldType.int))) (List.mem_of_getElem? (i := 61) rfl)
theorem am_cd_103 : am_cq 103 := am_i4 (w := (Cond.code ({ cls := "PaperRiver", name := "tear", desc := "(I)I" } : Jvm.MethodName) prog_1_method_11_code (6 : Nat) (Option.some Jvm.ClassFile.FieldType.int))) (List.mem_of_getElem? (i := 66) rfl)
theorem am_cd_104 : am_cq 104 := am_i4 (w := (Cond.code ({ cls := "PaperRiver", name := "dam", desc := "(IZ)Z" } : Jvm.MethodName) prog_1_method_12_code (4 : Nat) (Option.some Jvm.ClassFile.FieldType.boolean))) (List.mem_of_getElem? (i := 72) rfl)
theorem am_cd_105 : am_cq 105 := am_i4 (w := (Cond.code ({ cls := "PaperRiver", name := "net", desc := "(II)I" } : Jvm.MethodName) prog_1_method_13_code (4 : Nat) (Option.some Jvm.ClassFile.FieldType.int))) (List.mem_of_getElem? (i := 76) rfl)
theorem am_cd_106 : am_cq 106 := am_i4 (w := (Cond.code ({ cls := "PaperRiver", name := "undo", desc := "()I" } : Jvm.MethodName) prog_1_method_14_code (1 : Nat) (Option.some Jvm.ClassFile.FieldType.int))) (List.mem_of_getElem? (i := 81) rfl)
theorem am_cd_107 : am_cq 107 := am_i4 (w := (Cond.code ({ cls := "PaperRiver$Past", name := "giveBack", desc := "(LPaperRiver$Water;)V" } : Jvm.MethodName) prog_6_method_4_code (3 : Nat) (Option.none : Option Jvm.ClassFile.FieldType))) (List.mem_of_getElem? (i := 85) rfl)
theorem am_cd_108 : am_cq 108 := am_i4 (w := (Cond.code ({ cls := "PaperRiver", name := "ahead", desc := "(III)I" } : Jvm.MethodName) prog_1_method_15_code (5 : Nat) (Option.some Jvm.ClassFile.FieldType.int))) (List.mem_of_getElem? (i := 89) rfl)
theorem am_cd_109 : am_cq 109 := am_i4 (w := (Cond.code ({ cls := "PaperRiver$Stream", name := "beginLook", desc := "(LPaperRiver$World;LPaperRiver$Law;)V" } : Jvm.MethodName) prog_9_method_3_code (3 : Nat) (Option.none : Option Jvm.ClassFile.FieldType))) (List.mem_of_getElem? (i := 93) rfl)
theorem am_cd_110 : am_cq 110 := am_i4 (w := (Cond.code ({ cls := "PaperRiver$Stream", name := "follow", desc := "(II)V" } : Jvm.MethodName) prog_9_method_6_code (4 : Nat) (Option.none : Option Jvm.ClassFile.FieldType))) (List.mem_of_getElem? (i := 99) rfl)
theorem am_cd_111 : am_cq 111 := am_i4 (w := (Cond.code ({ cls := "PaperRiver", name := "mouth", desc := "(II)I" } : Jvm.MethodName) prog_1_method_16_code (4 : Nat) (Option.some Jvm.ClassFile.FieldType.int))) (List.mem_of_getElem? (i := 104) rfl)
theorem am_cd_112 : am_cq 112 := am_i4 (w := (Cond.code ({ cls := "PaperRiver$Stream", name := "nthIntoSea", desc := "(I)I" } : Jvm.MethodName) prog_9_method_7_code (6 : Nat) (Option.some Jvm.ClassFile.FieldType.int))) (List.mem_of_getElem? (i := 108) rfl)
theorem am_cd_113 : am_cq 113 := am_i4 (w := (Cond.code ({ cls := "PaperRiver$Water", name := "onRiver", desc := "()I" } : Jvm.MethodName) prog_11_method_12_code (3 : Nat) (Option.some Jvm.ClassFile.FieldType.int))) (List.mem_of_getElem? (i := 112) rfl)
theorem am_cd_114 : am_cq 114 := am_i4 (w := (Cond.code ({ cls := "PaperRiver", name := "fleet", desc := "(II)I" } : Jvm.MethodName) prog_1_method_17_code (4 : Nat) (Option.some Jvm.ClassFile.FieldType.int))) (List.mem_of_getElem? (i := 116) rfl)
theorem am_cd_115 : am_cq 115 := am_i4 (w := (Cond.code ({ cls := "PaperRiver$NetSearch", name := "fewest", desc := "(LPaperRiver$Stream;LPaperRiver$World;LPaperRiver$Law;I)I" } : Jvm.MethodName) prog_4_method_2_code (9 : Nat) (Option.some Jvm.ClassFile.FieldType.int))) (List.mem_of_getElem? (i := 121) rfl)
theorem am_cd_116 : am_cq 116 := am_i4 (w := (Cond.code ({ cls := "PaperRiver$NetSearch", name := "isIdle", desc := "(II)Z" } : Jvm.MethodName) prog_4_method_4_code (7 : Nat) (Option.some Jvm.ClassFile.FieldType.boolean))) (List.mem_of_getElem? (i := 125) rfl)
theorem am_cd_117 : am_cq 117 := am_i4 (w := (Cond.code ({ cls := "java/lang/Integer", name := "numberOfTrailingZeros", desc := "(I)I" } : Jvm.MethodName) prog_16_method_48_code (2 : Nat) (Option.some Jvm.ClassFile.FieldType.int))) (List.mem_of_getElem? (i := 128) rfl)
theorem am_cd_118 : am_cq 118 := am_i4 (w := (Cond.code ({ cls := "PaperRiver$NetSearch", name := "indexOf", desc := "(I)I" } : Jvm.MethodName) prog_4_method_6_code (4 : Nat) (Option.some Jvm.ClassFile.FieldType.int))) (List.mem_of_getElem? (i := 132) rfl)
theorem am_cd_119 : am_cq 119 := am_i4 (w := (Cond.code ({ cls := "PaperRiver$NetSearch", name := "remember", desc := "(II)V" } : Jvm.MethodName) prog_4_method_5_code (3 : Nat) (Option.none : Option Jvm.ClassFile.FieldType))) (List.mem_of_getElem? (i := 137) rfl)
theorem am_cd_120 : am_cq 120 := am_i4 (w := (Cond.code ({ cls := "PaperRiver$NetSearch", name := "getsAll", desc := "(LPaperRiver$Stream;II)Z" } : Jvm.MethodName) prog_4_method_7_code (6 : Nat) (Option.some Jvm.ClassFile.FieldType.boolean))) (List.mem_of_getElem? (i := 142) rfl)
theorem am_cd_121 : am_cq 121 := am_i4 (w := (Cond.code ({ cls := "PaperRiver$NetSearch", name := "isOpen", desc := "(LPaperRiver$Water;I)Z" } : Jvm.MethodName) prog_4_method_8_code (5 : Nat) (Option.some Jvm.ClassFile.FieldType.boolean))) (List.mem_of_getElem? (i := 145) rfl)
theorem am_cd_122 : am_cq 122 := am_i4 (w := (Cond.code ({ cls := "PaperRiver$Water", name := "lastFate", desc := "(I)I" } : Jvm.MethodName) prog_11_method_17_code (4 : Nat) (Option.some Jvm.ClassFile.FieldType.int))) (List.mem_of_getElem? (i := 149) rfl)
theorem am_cd_123 : am_cq 123 := am_i4 (w := (Cond.code ({ cls := "PaperRiver$NetSearch", name := "nextOfSize", desc := "(I)I" } : Jvm.MethodName) prog_4_method_3_code (3 : Nat) (Option.some Jvm.ClassFile.FieldType.int))) (List.mem_of_getElem? (i := 154) rfl)
theorem am_cd_124 : am_cq 124 := am_i4 (w := (Cond.code ({ cls := "PaperRiver", name := "put", desc := "(IIII)I" } : Jvm.MethodName) prog_1_method_18_code (9 : Nat) (Option.some Jvm.ClassFile.FieldType.int))) (List.mem_of_getElem? (i := 160) rfl)
theorem am_cd_125 : am_cq 125 := am_i4 (w := (Cond.code ({ cls := "PaperRiver", name := "isSpan", desc := "(I)Z" } : Jvm.MethodName) prog_1_method_32_code (1 : Nat) (Option.some Jvm.ClassFile.FieldType.boolean))) (List.mem_of_getElem? (i := 163) rfl)
theorem am_cd_126 : am_cq 126 := am_i4 (w := (Cond.code ({ cls := "PaperRiver", name := "rows", desc := "(II)I" } : Jvm.MethodName) prog_1_method_19_code (5 : Nat) (Option.some Jvm.ClassFile.FieldType.int))) (List.mem_of_getElem? (i := 167) rfl)
theorem am_cd_127 : am_cq 127 := am_i4 (w := (Cond.code ({ cls := "PaperRiver$Orders", name := "lay", desc := "(LPaperRiver$Water;I)V" } : Jvm.MethodName) prog_5_method_2_code (6 : Nat) (Option.none : Option Jvm.ClassFile.FieldType))) (List.mem_of_getElem? (i := 171) rfl)
theorem am_cd_128 : am_cq 128 := am_i4 (w := (Cond.code ({ cls := "PaperRiver$Orders", name := "waysOn", desc := "(II)I" } : Jvm.MethodName) prog_5_method_3_code (5 : Nat) (Option.some Jvm.ClassFile.FieldType.int))) (List.mem_of_getElem? (i := 177) rfl)
theorem am_cd_129 : am_cq 129 := am_i4 (w := (Cond.code ({ cls := "PaperRiver$Orders", name := "mayFollow", desc := "(III)Z" } : Jvm.MethodName) prog_5_method_4_code (4 : Nat) (Option.some Jvm.ClassFile.FieldType.boolean))) (List.mem_of_getElem? (i := 181) rfl)
theorem am_cd_130 : am_cq 130 := am_i4 (w := (Cond.code ({ cls := "PaperRiver$Orders", name := "countAll", desc := "()I" } : Jvm.MethodName) prog_5_method_5_code (1 : Nat) (Option.some Jvm.ClassFile.FieldType.int))) (List.mem_of_getElem? (i := 185) rfl)
theorem am_cd_131 : am_cq 131 := am_i4 (w := (Cond.code ({ cls := "PaperRiver$Orders", name := "inFirst", desc := "(I)I" } : Jvm.MethodName) prog_5_method_6_code (5 : Nat) (Option.some Jvm.ClassFile.FieldType.int))) (List.mem_of_getElem? (i := 189) rfl)
theorem am_cd_132 : am_cq 132 := am_i4 (w := (Cond.code ({ cls := "PaperRiver$Orders", name := "leastNext", desc := "(II)I" } : Jvm.MethodName) prog_5_method_7_code (4 : Nat) (Option.some Jvm.ClassFile.FieldType.int))) (List.mem_of_getElem? (i := 193) rfl)
theorem am_cd_133 : am_cq 133 := am_i4 (w := (Cond.code ({ cls := "PaperRiver", name := "seen", desc := "(III)I" } : Jvm.MethodName) prog_1_method_20_code (10 : Nat) (Option.some Jvm.ClassFile.FieldType.int))) (List.mem_of_getElem? (i := 197) rfl)
theorem am_cd_134 : am_cq 134 := am_i4 (w := (Cond.code ({ cls := "PaperRiver", name := "daysSeenFrom", desc := "(III)I" } : Jvm.MethodName) prog_1_method_36_code (12 : Nat) (Option.some Jvm.ClassFile.FieldType.int))) (List.mem_of_getElem? (i := 201) rfl)
theorem am_cd_135 : am_cq 135 := am_i4 (w := (Cond.code ({ cls := "PaperRiver", name := "gates", desc := "(II)I" } : Jvm.MethodName) prog_1_method_21_code (8 : Nat) (Option.some Jvm.ClassFile.FieldType.int))) (List.mem_of_getElem? (i := 206) rfl)
theorem am_cd_136 : am_cq 136 := am_i4 (w := (Cond.code ({ cls := "PaperRiver$Stream", name := "passDays", desc := "(I)V" } : Jvm.MethodName) prog_9_method_4_code (3 : Nat) (Option.none : Option Jvm.ClassFile.FieldType))) (List.mem_of_getElem? (i := 210) rfl)
theorem am_cd_137 : am_cq 137 := am_i4 (w := (Cond.code ({ cls := "PaperRiver$Water", name := "countFate", desc := "(I)I" } : Jvm.MethodName) prog_11_method_14_code (4 : Nat) (Option.some Jvm.ClassFile.FieldType.int))) (List.mem_of_getElem? (i := 214) rfl)
theorem am_cd_138 : am_cq 138 := am_i4 (w := (Cond.code ({ cls := "PaperRiver", name := "round", desc := "(II)I" } : Jvm.MethodName) prog_1_method_22_code (6 : Nat) (Option.some Jvm.ClassFile.FieldType.int))) (List.mem_of_getElem? (i := 218) rfl)
theorem am_cd_139 : am_cq 139 := am_i4 (w := (Cond.code ({ cls := "PaperRiver$Bed", name := "ringBelow", desc := "(I)I" } : Jvm.MethodName) prog_2_method_7_code (5 : Nat) (Option.some Jvm.ClassFile.FieldType.int))) (List.mem_of_getElem? (i := 222) rfl)
theorem am_cd_140 : am_cq 140 := am_i4 (w := (Cond.code ({ cls := "PaperRiver", name := "share", desc := "(II)I" } : Jvm.MethodName) prog_1_method_23_code (6 : Nat) (Option.some Jvm.ClassFile.FieldType.int))) (List.mem_of_getElem? (i := 226) rfl)
theorem am_cd_141 : am_cq 141 := am_i4 (w := (Cond.code ({ cls := "PaperRiver$Water", name := "countPrinted", desc := "()I" } : Jvm.MethodName) prog_11_method_16_code (3 : Nat) (Option.some Jvm.ClassFile.FieldType.int))) (List.mem_of_getElem? (i := 230) rfl)
theorem am_cd_142 : am_cq 142 := am_i4 (w := (Cond.code ({ cls := "PaperRiver", name := "commonDivisor", desc := "(II)I" } : Jvm.MethodName) prog_1_method_40_code (6 : Nat) (Option.some Jvm.ClassFile.FieldType.int))) (List.mem_of_getElem? (i := 233) rfl)
theorem am_cd_143 : am_cq 143 := am_i4 (w := (Cond.code ({ cls := "PaperRiver", name := "seed", desc := "(I)I" } : Jvm.MethodName) prog_1_method_24_code (3 : Nat) (Option.some Jvm.ClassFile.FieldType.int))) (List.mem_of_getElem? (i := 237) rfl)
theorem am_cd_144 : am_cq 144 := am_i5 (w := (Cond.code ({ cls := "PaperRiver", name := "years", desc := "(III)I" } : Jvm.MethodName) prog_1_method_25_code (7 : Nat) (Option.some Jvm.ClassFile.FieldType.int))) (List.mem_of_getElem? (i := 1) rfl)
theorem am_cd_145 : am_cq 145 := am_i5 (w := (Cond.code ({ cls := "PaperRiver", name := "passDrawnDays", desc := "(II)I" } : Jvm.MethodName) prog_1_method_37_code (7 : Nat) (Option.some Jvm.ClassFile.FieldType.int))) (List.mem_of_getElem? (i := 5) rfl)
theorem am_cd_146 : am_cq 146 := am_i5 (w := (Cond.code ({ cls := "PaperRiver", name := "nextSeedling", desc := "(I)I" } : Jvm.MethodName) prog_1_method_38_code (1 : Nat) (Option.some Jvm.ClassFile.FieldType.int))) (List.mem_of_getElem? (i := 8) rfl)
theorem am_cd_147 : am_cq 147 := am_i5 (w := (Cond.code ({ cls := "PaperRiver", name := "drawOf", desc := "(I)I" } : Jvm.MethodName) prog_1_method_39_code (1 : Nat) (Option.some Jvm.ClassFile.FieldType.int))) (List.mem_of_getElem? (i := 14) rfl)
theorem am_cd_148 : am_cq 148 := am_i5 (w := (Cond.code ({ cls := "PaperRiver", name := "count", desc := "(I)I" } : Jvm.MethodName) prog_1_method_26_code (2 : Nat) (Option.some Jvm.ClassFile.FieldType.int))) (List.mem_of_getElem? (i := 19) rfl)
theorem am_cd_149 : am_cq 149 := am_i5 (w := (Cond.code ({ cls := "PaperRiver", name := "image", desc := "(I)I" } : Jvm.MethodName) prog_1_method_27_code (2 : Nat) (Option.some Jvm.ClassFile.FieldType.int))) (List.mem_of_getElem? (i := 23) rfl)
theorem am_cd_150 : am_cq 150 := am_i5 (w := (Cond.code ({ cls := "PaperRiver$World", name := "takeFrom", desc := "(LPaperRiver$World;)V" } : Jvm.MethodName) prog_12_method_2_code (2 : Nat) (Option.none : Option Jvm.ClassFile.FieldType))) (List.mem_of_getElem? (i := 27) rfl)
theorem am_cd_151 : am_cq 151 := am_i5 (w := (Cond.code ({ cls := "PaperRiver$Past", name := "takeFrom", desc := "(LPaperRiver$Past;)V" } : Jvm.MethodName) prog_6_method_5_code (4 : Nat) (Option.none : Option Jvm.ClassFile.FieldType))) (List.mem_of_getElem? (i := 33) rfl)
theorem am_cd_152 : am_cq 152 := am_i5 (w := (Cond.code ({ cls := "PaperRiver", name := "back", desc := "(I)I" } : Jvm.MethodName) prog_1_method_28_code (2 : Nat) (Option.some Jvm.ClassFile.FieldType.int))) (List.mem_of_getElem? (i := 39) rfl)
theorem am_cd_153 : am_cq 153 := am_i5 (w := (Cond.code ({ cls := "PaperRiverModel", name := "<init>", desc := "()V" } : Jvm.MethodName) prog_14_method_1_code (1 : Nat) (Option.none : Option Jvm.ClassFile.FieldType))) (List.mem_of_getElem? (i := 44) rfl)
theorem am_cd_154 : am_cq 154 := am_i5 (w := (Cond.code ({ cls := "PaperRiverModel", name := "feed", desc := "(IIIII)I" } : Jvm.MethodName) prog_14_method_19_code (6 : Nat) (Option.some Jvm.ClassFile.FieldType.int))) (List.mem_of_getElem? (i := 224) rfl)
theorem am_cd_155 : am_cq 155 := am_i5 (w := (Cond.code ({ cls := "PaperRiverModel", name := "tapes", desc := "(I)V" } : Jvm.MethodName) prog_14_method_20_code (3 : Nat) (Option.none : Option Jvm.ClassFile.FieldType))) (List.mem_of_getElem? (i := 228) rfl)
theorem am_cd_156 : am_cq 156 := am_i5 (w := (Cond.code ({ cls := "PaperRiverModel", name := "end", desc := "(I)I" } : Jvm.MethodName) prog_14_method_21_code (2 : Nat) (Option.some Jvm.ClassFile.FieldType.int))) (List.mem_of_getElem? (i := 232) rfl)
theorem am_cd_157 : am_cq 157 := am_i5 (w := (Cond.code ({ cls := "PaperRiverModel", name := "river", desc := "()I" } : Jvm.MethodName) prog_14_method_55_code (2 : Nat) (Option.some Jvm.ClassFile.FieldType.int))) (List.mem_of_getElem? (i := 236) rfl)
theorem am_cd_158 : am_cq 158 := am_i6 (w := (Cond.code ({ cls := "PaperRiverModel", name := "readsAll", desc := "()V" } : Jvm.MethodName) prog_14_method_54_code (3 : Nat) (Option.none : Option Jvm.ClassFile.FieldType))) (List.mem_of_getElem? (i := 0) rfl)
theorem am_cd_159 : am_cq 159 := am_i6 (w := (Cond.code ({ cls := "PaperRiverModel", name := "starts", desc := "()V" } : Jvm.MethodName) prog_14_method_53_code (1 : Nat) (Option.none : Option Jvm.ClassFile.FieldType))) (List.mem_of_getElem? (i := 4) rfl)
theorem am_cd_160 : am_cq 160 := am_i6 (w := (Cond.code ({ cls := "PaperRiverModel", name := "riverClause", desc := "(I)V" } : Jvm.MethodName) prog_14_method_50_code (4 : Nat) (Option.none : Option Jvm.ClassFile.FieldType))) (List.mem_of_getElem? (i := 8) rfl)
theorem am_cd_161 : am_cq 161 := am_i6 (w := (Cond.code ({ cls := "PaperRiverModel", name := "blanks", desc := "()V" } : Jvm.MethodName) prog_14_method_25_code (1 : Nat) (Option.none : Option Jvm.ClassFile.FieldType))) (List.mem_of_getElem? (i := 12) rfl)
theorem am_cd_162 : am_cq 162 := am_i6 (w := (Cond.code ({ cls := "PaperRiverModel", name := "sign", desc := "()I" } : Jvm.MethodName) prog_14_method_24_code (1 : Nat) (Option.some Jvm.ClassFile.FieldType.int))) (List.mem_of_getElem? (i := 16) rfl)
theorem am_cd_163 : am_cq 163 := am_i6 (w := (Cond.code ({ cls := "PaperRiverModel", name := "riverWord", desc := "(I)Ljava/lang/String;" } : Jvm.MethodName) prog_14_method_45_code (1 : Nat) (Option.some (Jvm.ClassFile.FieldType.object "java/lang/String")))) (List.mem_of_getElem? (i := 19) rfl)
theorem am_cd_164 : am_cq 164 := am_i6 (w := (Cond.code ({ cls := "PaperRiverModel", name := "stood", desc := "(Ljava/lang/String;)Z" } : Jvm.MethodName) prog_14_method_27_code (5 : Nat) (Option.some Jvm.ClassFile.FieldType.boolean))) (List.mem_of_getElem? (i := 31) rfl)
theorem am_cd_165 : am_cq 165 := am_i6 (w := (Cond.code ({ cls := "PaperRiverModel", name := "fails", desc := "(II)V" } : Jvm.MethodName) prog_14_method_23_code (3 : Nat) (Option.none : Option Jvm.ClassFile.FieldType))) (List.mem_of_getElem? (i := 37) rfl)
theorem am_cd_166 : am_cq 166 := am_i6 (w := (Cond.code ({ cls := "PaperRiverModel", name := "isFull", desc := "(II)Z" } : Jvm.MethodName) prog_14_method_49_code (3 : Nat) (Option.some Jvm.ClassFile.FieldType.boolean))) (List.mem_of_getElem? (i := 41) rfl)
theorem am_cd_167 : am_cq 167 := am_i6 (w := (Cond.code ({ cls := "PaperRiverModel", name := "riverPart", desc := "(I)V" } : Jvm.MethodName) prog_14_method_48_code (4 : Nat) (Option.none : Option Jvm.ClassFile.FieldType))) (List.mem_of_getElem? (i := 45) rfl)
theorem am_cd_168 : am_cq 168 := am_i6 (w := (Cond.code ({ cls := "PaperRiverModel", name := "readsRiver", desc := "()V" } : Jvm.MethodName) prog_14_method_46_code (3 : Nat) (Option.none : Option Jvm.ClassFile.FieldType))) (List.mem_of_getElem? (i := 49) rfl)
theorem am_cd_169 : am_cq 169 := am_i6 (w := (Cond.code ({ cls := "PaperRiverModel", name := "amount", desc := "(II)I" } : Jvm.MethodName) prog_14_method_41_code (5 : Nat) (Option.some Jvm.ClassFile.FieldType.int))) (List.mem_of_getElem? (i := 53) rfl)
theorem am_cd_170 : am_cq 170 := am_i6 (w := (Cond.code ({ cls := "PaperRiverModel", name := "digits", desc := "(I)I" } : Jvm.MethodName) prog_14_method_31_code (4 : Nat) (Option.some Jvm.ClassFile.FieldType.int))) (List.mem_of_getElem? (i := 58) rfl)
theorem am_cd_171 : am_cq 171 := am_i6 (w := (Cond.code ({ cls := "PaperRiverModel", name := "isDigit", desc := "()Z" } : Jvm.MethodName) prog_14_method_26_code (1 : Nat) (Option.some Jvm.ClassFile.FieldType.boolean))) (List.mem_of_getElem? (i := 62) rfl)
theorem am_cd_172 : am_cq 172 := am_i6 (w := (Cond.code ({ cls := "PaperRiverModel", name := "in", desc := "(JJJ)Z" } : Jvm.MethodName) prog_14_method_3_code (6 : Nat) (Option.some Jvm.ClassFile.FieldType.boolean))) (List.mem_of_getElem? (i := 67) rfl)
theorem am_cd_173 : am_cq 173 := am_i6 (w := (Cond.code ({ cls := "PaperRiverModel", name := "readsFlow", desc := "()V" } : Jvm.MethodName) prog_14_method_47_code (4 : Nat) (Option.none : Option Jvm.ClassFile.FieldType))) (List.mem_of_getElem? (i := 71) rfl)
theorem am_cd_174 : am_cq 174 := am_i6 (w := (Cond.code ({ cls := "PaperRiverModel", name := "newCell", desc := "()I" } : Jvm.MethodName) prog_14_method_42_code (1 : Nat) (Option.some Jvm.ClassFile.FieldType.int))) (List.mem_of_getElem? (i := 75) rfl)
theorem am_cd_175 : am_cq 175 := am_i6 (w := (Cond.code ({ cls := "PaperRiverModel", name := "freeCell", desc := "([II)I" } : Jvm.MethodName) prog_14_method_43_code (5 : Nat) (Option.some Jvm.ClassFile.FieldType.int))) (List.mem_of_getElem? (i := 79) rfl)
theorem am_cd_176 : am_cq 176 := am_i6 (w := (Cond.code ({ cls := "PaperRiverModel", name := "placeOf", desc := "([III)I" } : Jvm.MethodName) prog_14_method_10_code (4 : Nat) (Option.some Jvm.ClassFile.FieldType.int))) (List.mem_of_getElem? (i := 82) rfl)
theorem am_cd_177 : am_cq 177 := am_i6 (w := (Cond.code ({ cls := "PaperRiverModel", name := "letters", desc := "(I)I" } : Jvm.MethodName) prog_14_method_44_code (4 : Nat) (Option.some Jvm.ClassFile.FieldType.int))) (List.mem_of_getElem? (i := 86) rfl)
theorem am_cd_178 : am_cq 178 := am_i6 (w := (Cond.code ({ cls := "PaperRiverModel", name := "goesOn", desc := "()Z" } : Jvm.MethodName) prog_14_method_52_code (2 : Nat) (Option.some Jvm.ClassFile.FieldType.boolean))) (List.mem_of_getElem? (i := 92) rfl)
theorem am_cd_179 : am_cq 179 := am_i6 (w := (Cond.code ({ cls := "PaperRiverModel", name := "copies", desc := "([I[I)V" } : Jvm.MethodName) prog_14_method_51_code (3 : Nat) (Option.none : Option Jvm.ClassFile.FieldType))) (List.mem_of_getElem? (i := 95) rfl)
theorem am_cd_180 : am_cq 180 := am_i6 (w := (Cond.code ({ cls := "PaperRiverModel", name := "rule", desc := "()I" } : Jvm.MethodName) prog_14_method_57_code (3 : Nat) (Option.some Jvm.ClassFile.FieldType.int))) (List.mem_of_getElem? (i := 99) rfl)
theorem am_cd_181 : am_cq 181 := am_i6 (w := (Cond.code ({ cls := "PaperRiverModel", name := "ruleClause", desc := "(I)V" } : Jvm.MethodName) prog_14_method_56_code (4 : Nat) (Option.none : Option Jvm.ClassFile.FieldType))) (List.mem_of_getElem? (i := 103) rfl)
theorem am_cd_182 : am_cq 182 := am_i6 (w := (Cond.code ({ cls := "PaperRiverModel", name := "test", desc := "()V" } : Jvm.MethodName) prog_14_method_40_code (5 : Nat) (Option.none : Option Jvm.ClassFile.FieldType))) (List.mem_of_getElem? (i := 108) rfl)
theorem am_cd_183 : am_cq 183 := am_i6 (w := (Cond.code ({ cls := "PaperRiverModel", name := "fact", desc := "()Z" } : Jvm.MethodName) prog_14_method_39_code (1 : Nat) (Option.some Jvm.ClassFile.FieldType.boolean))) (List.mem_of_getElem? (i := 112) rfl)
theorem am_cd_184 : am_cq 184 := am_i6 (w := (Cond.code ({ cls := "PaperRiverModel", name := "opens", desc := "(I)V" } : Jvm.MethodName) prog_14_method_37_code (2 : Nat) (Option.none : Option Jvm.ClassFile.FieldType))) (List.mem_of_getElem? (i := 117) rfl)
theorem am_cd_185 : am_cq 185 := am_i6 (w := (Cond.code ({ cls := "PaperRiverModel", name := "compared", desc := "()V" } : Jvm.MethodName) prog_14_method_35_code (3 : Nat) (Option.none : Option Jvm.ClassFile.FieldType))) (List.mem_of_getElem? (i := 121) rfl)
theorem am_cd_186 : am_cq 186 := am_i6 (w := (Cond.code ({ cls := "PaperRiverModel", name := "sum", desc := "()V" } : Jvm.MethodName) prog_14_method_34_code (2 : Nat) (Option.none : Option Jvm.ClassFile.FieldType))) (List.mem_of_getElem? (i := 125) rfl)
theorem am_cd_187 : am_cq 187 := am_i6 (w := (Cond.code ({ cls := "PaperRiverModel", name := "term", desc := "()V" } : Jvm.MethodName) prog_14_method_33_code (2 : Nat) (Option.none : Option Jvm.ClassFile.FieldType))) (List.mem_of_getElem? (i := 129) rfl)
theorem am_cd_188 : am_cq 188 := am_i6 (w := (Cond.code ({ cls := "PaperRiverModel", name := "value", desc := "()V" } : Jvm.MethodName) prog_14_method_32_code (3 : Nat) (Option.none : Option Jvm.ClassFile.FieldType))) (List.mem_of_getElem? (i := 133) rfl)
theorem am_cd_189 : am_cq 189 := am_i6 (w := (Cond.code ({ cls := "PaperRiverModel", name := "isCounted", desc := "(I)V" } : Jvm.MethodName) prog_14_method_30_code (2 : Nat) (Option.none : Option Jvm.ClassFile.FieldType))) (List.mem_of_getElem? (i := 137) rfl)
theorem am_cd_190 : am_cq 190 := am_i6 (w := (Cond.code ({ cls := "PaperRiverModel", name := "entry", desc := "(II)V" } : Jvm.MethodName) prog_14_method_29_code (3 : Nat) (Option.none : Option Jvm.ClassFile.FieldType))) (List.mem_of_getElem? (i := 141) rfl)
theorem am_cd_191 : am_cq 191 := am_i6 (w := (Cond.code ({ cls := "PaperRiverModel", name := "wordOf", desc := "(I)Ljava/lang/String;" } : Jvm.MethodName) prog_14_method_22_code (1 : Nat) (Option.some (Jvm.ClassFile.FieldType.object "java/lang/String")))) (List.mem_of_getElem? (i := 144) rfl)
theorem am_cd_192 : am_cq 192 := am_i6 (w := (Cond.code ({ cls := "PaperRiverModel", name := "answers", desc := "(I)V" } : Jvm.MethodName) prog_14_method_38_code (2 : Nat) (Option.none : Option Jvm.ClassFile.FieldType))) (List.mem_of_getElem? (i := 159) rfl)
theorem am_cd_193 : am_cq 193 := am_i6 (w := (Cond.code ({ cls := "PaperRiverModel", name := "top", desc := "()I" } : Jvm.MethodName) prog_14_method_36_code (1 : Nat) (Option.some Jvm.ClassFile.FieldType.int))) (List.mem_of_getElem? (i := 163) rfl)
theorem am_cd_194 : am_cq 194 := am_i6 (w := (Cond.code ({ cls := "PaperRiverModel", name := "force", desc := "(I)I" } : Jvm.MethodName) prog_14_method_58_code (3 : Nat) (Option.some Jvm.ClassFile.FieldType.int))) (List.mem_of_getElem? (i := 169) rfl)
theorem am_cd_195 : am_cq 195 := am_i6 (w := (Cond.code ({ cls := "PaperRiverModel", name := "cell", desc := "(II)I" } : Jvm.MethodName) prog_14_method_65_code (3 : Nat) (Option.some Jvm.ClassFile.FieldType.int))) (List.mem_of_getElem? (i := 174) rfl)
theorem am_cd_196 : am_cq 196 := am_i6 (w := (Cond.code ({ cls := "PaperRiverModel", name := "isCell", desc := "(I)Z" } : Jvm.MethodName) prog_14_method_7_code (2 : Nat) (Option.some Jvm.ClassFile.FieldType.boolean))) (List.mem_of_getElem? (i := 178) rfl)
theorem am_cd_197 : am_cq 197 := am_i6 (w := (Cond.code ({ cls := "PaperRiverModel", name := "millIn", desc := "(I)I" } : Jvm.MethodName) prog_14_method_11_code (2 : Nat) (Option.some Jvm.ClassFile.FieldType.int))) (List.mem_of_getElem? (i := 182) rfl)
theorem am_cd_198 : am_cq 198 := am_i6 (w := (Cond.code ({ cls := "PaperRiverModel", name := "damIn", desc := "(I)I" } : Jvm.MethodName) prog_14_method_12_code (2 : Nat) (Option.some Jvm.ClassFile.FieldType.int))) (List.mem_of_getElem? (i := 186) rfl)
theorem am_cd_199 : am_cq 199 := am_i6 (w := (Cond.code ({ cls := "PaperRiverModel", name := "has", desc := "(II)Z" } : Jvm.MethodName) prog_14_method_5_code (2 : Nat) (Option.some Jvm.ClassFile.FieldType.boolean))) (List.mem_of_getElem? (i := 189) rfl)
theorem am_cd_200 : am_cq 200 := am_i6 (w := (Cond.code ({ cls := "PaperRiverModel", name := "netIn", desc := "(I)I" } : Jvm.MethodName) prog_14_method_13_code (2 : Nat) (Option.some Jvm.ClassFile.FieldType.int))) (List.mem_of_getElem? (i := 193) rfl)
theorem am_cd_201 : am_cq 201 := am_i6 (w := (Cond.code ({ cls := "PaperRiverModel", name := "scrapsIn", desc := "(I)I" } : Jvm.MethodName) prog_14_method_64_code (4 : Nat) (Option.some Jvm.ClassFile.FieldType.int))) (List.mem_of_getElem? (i := 197) rfl)
theorem am_cd_202 : am_cq 202 := am_i6 (w := (Cond.code ({ cls := "PaperRiverModel", name := "floats", desc := "(I)Z" } : Jvm.MethodName) prog_14_method_9_code (2 : Nat) (Option.some Jvm.ClassFile.FieldType.boolean))) (List.mem_of_getElem? (i := 201) rfl)
theorem am_cd_203 : am_cq 203 := am_i6 (w := (Cond.code ({ cls := "PaperRiverModel", name := "scrap", desc := "(II)I" } : Jvm.MethodName) prog_14_method_66_code (3 : Nat) (Option.some Jvm.ClassFile.FieldType.int))) (List.mem_of_getElem? (i := 205) rfl)
theorem am_cd_204 : am_cq 204 := am_i6 (w := (Cond.code ({ cls := "PaperRiverModel", name := "isScrap", desc := "(I)Z" } : Jvm.MethodName) prog_14_method_8_code (2 : Nat) (Option.some Jvm.ClassFile.FieldType.boolean))) (List.mem_of_getElem? (i := 209) rfl)
theorem am_cd_205 : am_cq 205 := am_i6 (w := (Cond.code ({ cls := "PaperRiverModel", name := "undo", desc := "()I" } : Jvm.MethodName) prog_14_method_79_code (1 : Nat) (Option.some Jvm.ClassFile.FieldType.int))) (List.mem_of_getElem? (i := 213) rfl)
theorem am_cd_206 : am_cq 206 := am_i6 (w := (Cond.code ({ cls := "PaperRiverModel", name := "movesAll", desc := "(IZ)V" } : Jvm.MethodName) prog_14_method_77_code (3 : Nat) (Option.none : Option Jvm.ClassFile.FieldType))) (List.mem_of_getElem? (i := 217) rfl)
theorem am_cd_207 : am_cq 207 := am_i6 (w := (Cond.code ({ cls := "PaperRiverModel", name := "moves", desc := "(I)I" } : Jvm.MethodName) prog_14_method_75_code (3 : Nat) (Option.some Jvm.ClassFile.FieldType.int))) (List.mem_of_getElem? (i := 221) rfl)
theorem am_cd_208 : am_cq 208 := am_i6 (w := (Cond.code ({ cls := "PaperRiverModel", name := "movesRow", desc := "([I)V" } : Jvm.MethodName) prog_14_method_76_code (3 : Nat) (Option.none : Option Jvm.ClassFile.FieldType))) (List.mem_of_getElem? (i := 225) rfl)
theorem am_cd_209 : am_cq 209 := am_i6 (w := (Cond.code ({ cls := "PaperRiverModel", name := "day", desc := "()I" } : Jvm.MethodName) prog_14_method_80_code (1 : Nat) (Option.some Jvm.ClassFile.FieldType.int))) (List.mem_of_getElem? (i := 229) rfl)
theorem am_cd_210 : am_cq 210 := am_i6 (w := (Cond.code ({ cls := "PaperRiverModel", name := "isRiver", desc := "()Z" } : Jvm.MethodName) prog_14_method_6_code (1 : Nat) (Option.some Jvm.ClassFile.FieldType.boolean))) (List.mem_of_getElem? (i := 233) rfl)
theorem am_cd_211 : am_cq 211 := am_i6 (w := (Cond.code ({ cls := "PaperRiverModel", name := "keepsAct", desc := "()V" } : Jvm.MethodName) prog_14_method_78_code (2 : Nat) (Option.none : Option Jvm.ClassFile.FieldType))) (List.mem_of_getElem? (i := 237) rfl)
theorem am_cd_212 : am_cq 212 := am_i7 (w := (Cond.code ({ cls := "PaperRiverModel", name := "dayPasses", desc := "()I" } : Jvm.MethodName) prog_14_method_74_code (4 : Nat) (Option.some Jvm.ClassFile.FieldType.int))) (List.mem_of_getElem? (i := 1) rfl)
theorem am_cd_213 : am_cq 213 := am_i7 (w := (Cond.code ({ cls := "PaperRiverModel", name := "afloat", desc := "()I" } : Jvm.MethodName) prog_14_method_63_code (3 : Nat) (Option.some Jvm.ClassFile.FieldType.int))) (List.mem_of_getElem? (i := 5) rfl)
theorem am_cd_214 : am_cq 214 := am_i7 (w := (Cond.code ({ cls := "PaperRiverModel", name := "drifts", desc := "(I)V" } : Jvm.MethodName) prog_14_method_70_code (4 : Nat) (Option.none : Option Jvm.ClassFile.FieldType))) (List.mem_of_getElem? (i := 9) rfl)
theorem am_cd_215 : am_cq 215 := am_i7 (w := (Cond.code ({ cls := "PaperRiverModel", name := "isShut", desc := "(I)Z" } : Jvm.MethodName) prog_14_method_68_code (3 : Nat) (Option.some Jvm.ClassFile.FieldType.boolean))) (List.mem_of_getElem? (i := 13) rfl)
theorem am_cd_216 : am_cq 216 := am_i7 (w := (Cond.code ({ cls := "PaperRiverModel", name := "leaves", desc := "(III)V" } : Jvm.MethodName) prog_14_method_67_code (4 : Nat) (Option.none : Option Jvm.ClassFile.FieldType))) (List.mem_of_getElem? (i := 17) rfl)
theorem am_cd_217 : am_cq 217 := am_i7 (w := (Cond.code ({ cls := "PaperRiverModel", name := "lengthOf", desc := "(I)I" } : Jvm.MethodName) prog_14_method_14_code (3 : Nat) (Option.some Jvm.ClassFile.FieldType.int))) (List.mem_of_getElem? (i := 20) rfl)
theorem am_cd_218 : am_cq 218 := am_i7 (w := (Cond.code ({ cls := "PaperRiverModel", name := "printedBehind", desc := "(II)I" } : Jvm.MethodName) prog_14_method_69_code (3 : Nat) (Option.some Jvm.ClassFile.FieldType.int))) (List.mem_of_getElem? (i := 24) rfl)
theorem am_cd_219 : am_cq 219 := am_i7 (w := (Cond.code ({ cls := "PaperRiverModel", name := "joinsIn", desc := "(I)Z" } : Jvm.MethodName) prog_14_method_72_code (5 : Nat) (Option.some Jvm.ClassFile.FieldType.boolean))) (List.mem_of_getElem? (i := 28) rfl)
theorem am_cd_220 : am_cq 220 := am_i7 (w := (Cond.code ({ cls := "PaperRiverModel", name := "canJoin", desc := "(II)Z" } : Jvm.MethodName) prog_14_method_71_code (3 : Nat) (Option.some Jvm.ClassFile.FieldType.boolean))) (List.mem_of_getElem? (i := 32) rfl)
theorem am_cd_221 : am_cq 221 := am_i7 (w := (Cond.code ({ cls := "PaperRiverModel", name := "firstOf", desc := "(I)I" } : Jvm.MethodName) prog_14_method_15_code (2 : Nat) (Option.some Jvm.ClassFile.FieldType.int))) (List.mem_of_getElem? (i := 35) rfl)
theorem am_cd_222 : am_cq 222 := am_i7 (w := (Cond.code ({ cls := "PaperRiverModel", name := "lettersOf", desc := "(I)I" } : Jvm.MethodName) prog_14_method_18_code (3 : Nat) (Option.some Jvm.ClassFile.FieldType.int))) (List.mem_of_getElem? (i := 38) rfl)
theorem am_cd_223 : am_cq 223 := am_i7 (w := (Cond.code ({ cls := "PaperRiverModel", name := "bits", desc := "(I)I" } : Jvm.MethodName) prog_14_method_4_code (3 : Nat) (Option.some Jvm.ClassFile.FieldType.int))) (List.mem_of_getElem? (i := 41) rfl)
theorem am_cd_224 : am_cq 224 := am_i7 (w := (Cond.code ({ cls := "PaperRiverModel", name := "isTrue", desc := "()Z" } : Jvm.MethodName) prog_14_method_59_code (3 : Nat) (Option.some Jvm.ClassFile.FieldType.boolean))) (List.mem_of_getElem? (i := 45) rfl)
theorem am_cd_225 : am_cq 225 := am_i7 (w := (Cond.code ({ cls := "PaperRiverModel", name := "answer", desc := "(III)J" } : Jvm.MethodName) prog_14_method_62_code (8 : Nat) (Option.some Jvm.ClassFile.FieldType.long))) (List.mem_of_getElem? (i := 49) rfl)
theorem am_cd_226 : am_cq 226 := am_i7 (w := (Cond.code ({ cls := "PaperRiverModel", name := "both", desc := "(IJJ)J" } : Jvm.MethodName) prog_14_method_61_code (5 : Nat) (Option.some Jvm.ClassFile.FieldType.long))) (List.mem_of_getElem? (i := 52) rfl)
theorem am_cd_227 : am_cq 227 := am_i7 (w := (Cond.code ({ cls := "PaperRiverModel", name := "truth", desc := "(Z)J" } : Jvm.MethodName) prog_14_method_60_code (1 : Nat) (Option.some Jvm.ClassFile.FieldType.long))) (List.mem_of_getElem? (i := 55) rfl)
theorem am_cd_228 : am_cq 228 := am_i7 (w := (Cond.code ({ cls := "PaperRiverModel", name := "tens", desc := "(I)I" } : Jvm.MethodName) prog_14_method_16_code (3 : Nat) (Option.some Jvm.ClassFile.FieldType.int))) (List.mem_of_getElem? (i := 58) rfl)
theorem am_cd_229 : am_cq 229 := am_i7 (w := (Cond.code ({ cls := "PaperRiverModel", name := "catches", desc := "()V" } : Jvm.MethodName) prog_14_method_73_code (3 : Nat) (Option.none : Option Jvm.ClassFile.FieldType))) (List.mem_of_getElem? (i := 62) rfl)
theorem am_cd_230 : am_cq 230 := am_i7 (w := (Cond.code ({ cls := "PaperRiverModel", name := "drop", desc := "(II)I" } : Jvm.MethodName) prog_14_method_82_code (3 : Nat) (Option.some Jvm.ClassFile.FieldType.int))) (List.mem_of_getElem? (i := 66) rfl)
theorem am_cd_231 : am_cq 231 := am_i7 (w := (Cond.code ({ cls := "PaperRiverModel", name := "isText", desc := "(I)Z" } : Jvm.MethodName) prog_14_method_17_code (2 : Nat) (Option.some Jvm.ClassFile.FieldType.boolean))) (List.mem_of_getElem? (i := 69) rfl)
theorem am_cd_232 : am_cq 232 := am_i7 (w := (Cond.code ({ cls := "PaperRiverModel", name := "adds", desc := "(III)I" } : Jvm.MethodName) prog_14_method_81_code (5 : Nat) (Option.some Jvm.ClassFile.FieldType.int))) (List.mem_of_getElem? (i := 74) rfl)
theorem am_cd_233 : am_cq 233 := am_i7 (w := (Cond.code ({ cls := "PaperRiverModel", name := "tear", desc := "(I)I" } : Jvm.MethodName) prog_14_method_83_code (5 : Nat) (Option.some Jvm.ClassFile.FieldType.int))) (List.mem_of_getElem? (i := 78) rfl)
theorem am_cd_234 : am_cq 234 := am_i7 (w := (Cond.code ({ cls := "PaperRiverModel", name := "dam", desc := "(IZ)Z" } : Jvm.MethodName) prog_14_method_84_code (3 : Nat) (Option.some Jvm.ClassFile.FieldType.boolean))) (List.mem_of_getElem? (i := 82) rfl)
theorem am_cd_235 : am_cq 235 := am_i7 (w := (Cond.code ({ cls := "PaperRiverModel", name := "net", desc := "(II)I" } : Jvm.MethodName) prog_14_method_87_code (5 : Nat) (Option.some Jvm.ClassFile.FieldType.int))) (List.mem_of_getElem? (i := 86) rfl)
theorem am_cd_236 : am_cq 236 := am_i7 (w := (Cond.code ({ cls := "PaperRiverModel", name := "netGoes", desc := "(I)V" } : Jvm.MethodName) prog_14_method_85_code (3 : Nat) (Option.none : Option Jvm.ClassFile.FieldType))) (List.mem_of_getElem? (i := 91) rfl)
theorem am_cd_237 : am_cq 237 := am_i7 (w := (Cond.code ({ cls := "PaperRiverModel", name := "netComes", desc := "(II)V" } : Jvm.MethodName) prog_14_method_86_code (3 : Nat) (Option.none : Option Jvm.ClassFile.FieldType))) (List.mem_of_getElem? (i := 95) rfl)
theorem am_cd_238 : am_cq 238 := am_i7 (w := (Cond.code ({ cls := "PaperRiverModel", name := "ahead", desc := "(III)I" } : Jvm.MethodName) prog_14_method_91_code (5 : Nat) (Option.some Jvm.ClassFile.FieldType.int))) (List.mem_of_getElem? (i := 99) rfl)
theorem am_cd_239 : am_cq 239 := am_i7 (w := (Cond.code ({ cls := "PaperRiverModel", name := "keepsAll", desc := "()V" } : Jvm.MethodName) prog_14_method_88_code (1 : Nat) (Option.none : Option Jvm.ClassFile.FieldType))) (List.mem_of_getElem? (i := 105) rfl)
theorem am_cd_240 : am_cq 240 := am_i7 (w := (Cond.code ({ cls := "PaperRiverModel", name := "carriesAll", desc := "(IZ)V" } : Jvm.MethodName) prog_14_method_114_code (3 : Nat) (Option.none : Option Jvm.ClassFile.FieldType))) (List.mem_of_getElem? (i := 109) rfl)
theorem am_cd_241 : am_cq 241 := am_i7 (w := (Cond.code ({ cls := "PaperRiverModel", name := "carryRow", desc := "([I)V" } : Jvm.MethodName) prog_14_method_113_code (3 : Nat) (Option.none : Option Jvm.ClassFile.FieldType))) (List.mem_of_getElem? (i := 113) rfl)
theorem am_cd_242 : am_cq 242 := am_i7 (w := (Cond.code ({ cls := "PaperRiverModel", name := "goes", desc := "(I)V" } : Jvm.MethodName) prog_14_method_90_code (3 : Nat) (Option.none : Option Jvm.ClassFile.FieldType))) (List.mem_of_getElem? (i := 117) rfl)
theorem am_cd_243 : am_cq 243 := am_i7 (w := (Cond.code ({ cls := "PaperRiverModel", name := "laysBack", desc := "()V" } : Jvm.MethodName) prog_14_method_89_code (1 : Nat) (Option.none : Option Jvm.ClassFile.FieldType))) (List.mem_of_getElem? (i := 121) rfl)
theorem am_cd_244 : am_cq 244 := am_i7 (w := (Cond.code ({ cls := "PaperRiverModel", name := "mouth", desc := "(II)I" } : Jvm.MethodName) prog_14_method_92_code (9 : Nat) (Option.some Jvm.ClassFile.FieldType.int))) (List.mem_of_getElem? (i := 125) rfl)
theorem am_cd_245 : am_cq 245 := am_i7 (w := (Cond.code ({ cls := "PaperRiverModel", name := "fleet", desc := "(II)I" } : Jvm.MethodName) prog_14_method_95_code (6 : Nat) (Option.some Jvm.ClassFile.FieldType.int))) (List.mem_of_getElem? (i := 129) rfl)
theorem am_cd_246 : am_cq 246 := am_i7 (w := (Cond.code ({ cls := "PaperRiverModel", name := "doesGet", desc := "(II)Z" } : Jvm.MethodName) prog_14_method_94_code (5 : Nat) (Option.some Jvm.ClassFile.FieldType.boolean))) (List.mem_of_getElem? (i := 133) rfl)
theorem am_cd_247 : am_cq 247 := am_i7 (w := (Cond.code ({ cls := "PaperRiverModel", name := "isGot", desc := "(I)Z" } : Jvm.MethodName) prog_14_method_93_code (3 : Nat) (Option.some Jvm.ClassFile.FieldType.boolean))) (List.mem_of_getElem? (i := 137) rfl)
theorem am_cd_248 : am_cq 248 := am_i7 (w := (Cond.code ({ cls := "PaperRiverModel", name := "put", desc := "(IIII)I" } : Jvm.MethodName) prog_14_method_96_code (10 : Nat) (Option.some Jvm.ClassFile.FieldType.int))) (List.mem_of_getElem? (i := 141) rfl)
theorem am_cd_249 : am_cq 249 := am_i7 (w := (Cond.code ({ cls := "PaperRiverModel", name := "rows", desc := "(II)I" } : Jvm.MethodName) prog_14_method_98_code (4 : Nat) (Option.some Jvm.ClassFile.FieldType.int))) (List.mem_of_getElem? (i := 145) rfl)
theorem am_cd_250 : am_cq 250 := am_i7 (w := (Cond.code ({ cls := "PaperRiverModel", name := "countsRows", desc := "(I)I" } : Jvm.MethodName) prog_14_method_97_code (6 : Nat) (Option.some Jvm.ClassFile.FieldType.int))) (List.mem_of_getElem? (i := 150) rfl)
theorem am_cd_251 : am_cq 251 := am_i7 (w := (Cond.code ({ cls := "PaperRiverModel", name := "seen", desc := "(III)I" } : Jvm.MethodName) prog_14_method_101_code (9 : Nat) (Option.some Jvm.ClassFile.FieldType.int))) (List.mem_of_getElem? (i := 154) rfl)
theorem am_cd_252 : am_cq 252 := am_i7 (w := (Cond.code ({ cls := "PaperRiverModel", name := "driftsAlone", desc := "(II)I" } : Jvm.MethodName) prog_14_method_99_code (6 : Nat) (Option.some Jvm.ClassFile.FieldType.int))) (List.mem_of_getElem? (i := 158) rfl)
theorem am_cd_253 : am_cq 253 := am_i7 (w := (Cond.code ({ cls := "PaperRiverModel", name := "canBecome", desc := "(I)Z" } : Jvm.MethodName) prog_14_method_100_code (7 : Nat) (Option.some Jvm.ClassFile.FieldType.boolean))) (List.mem_of_getElem? (i := 162) rfl)
theorem am_cd_254 : am_cq 254 := am_i7 (w := (Cond.code ({ cls := "PaperRiverModel", name := "gates", desc := "(II)I" } : Jvm.MethodName) prog_14_method_103_code (7 : Nat) (Option.some Jvm.ClassFile.FieldType.int))) (List.mem_of_getElem? (i := 166) rfl)
theorem am_cd_255 : am_cq 255 := am_i7 (w := (Cond.code ({ cls := "PaperRiverModel", name := "inTheSea", desc := "()I" } : Jvm.MethodName) prog_14_method_102_code (3 : Nat) (Option.some Jvm.ClassFile.FieldType.int))) (List.mem_of_getElem? (i := 170) rfl)
theorem am_cd_256 : am_cq 256 := am_i7 (w := (Cond.code ({ cls := "PaperRiverModel", name := "round", desc := "(II)I" } : Jvm.MethodName) prog_14_method_105_code (5 : Nat) (Option.some Jvm.ClassFile.FieldType.int))) (List.mem_of_getElem? (i := 174) rfl)
theorem am_cd_257 : am_cq 257 := am_i7 (w := (Cond.code ({ cls := "PaperRiverModel", name := "roundOf", desc := "(I)I" } : Jvm.MethodName) prog_14_method_104_code (4 : Nat) (Option.some Jvm.ClassFile.FieldType.int))) (List.mem_of_getElem? (i := 178) rfl)
theorem am_cd_258 : am_cq 258 := am_i7 (w := (Cond.code ({ cls := "PaperRiverModel", name := "share", desc := "(II)I" } : Jvm.MethodName) prog_14_method_107_code (7 : Nat) (Option.some Jvm.ClassFile.FieldType.int))) (List.mem_of_getElem? (i := 182) rfl)
theorem am_cd_259 : am_cq 259 := am_i7 (w := (Cond.code ({ cls := "PaperRiverModel", name := "allPrinted", desc := "()I" } : Jvm.MethodName) prog_14_method_106_code (3 : Nat) (Option.some Jvm.ClassFile.FieldType.int))) (List.mem_of_getElem? (i := 186) rfl)
theorem am_cd_260 : am_cq 260 := am_i7 (w := (Cond.code ({ cls := "PaperRiverModel", name := "seed", desc := "(I)I" } : Jvm.MethodName) prog_14_method_108_code (3 : Nat) (Option.some Jvm.ClassFile.FieldType.int))) (List.mem_of_getElem? (i := 190) rfl)
theorem am_cd_261 : am_cq 261 := am_i7 (w := (Cond.code ({ cls := "PaperRiverModel", name := "years", desc := "(III)I" } : Jvm.MethodName) prog_14_method_111_code (11 : Nat) (Option.some Jvm.ClassFile.FieldType.int))) (List.mem_of_getElem? (i := 194) rfl)
theorem am_cd_262 : am_cq 262 := am_i7 (w := (Cond.code ({ cls := "PaperRiverModel", name := "gone", desc := "(I)I" } : Jvm.MethodName) prog_14_method_110_code (4 : Nat) (Option.some Jvm.ClassFile.FieldType.int))) (List.mem_of_getElem? (i := 199) rfl)
theorem am_cd_263 : am_cq 263 := am_i7 (w := (Cond.code ({ cls := "PaperRiverModel", name := "draws", desc := "(I)I" } : Jvm.MethodName) prog_14_method_109_code (2 : Nat) (Option.some Jvm.ClassFile.FieldType.int))) (List.mem_of_getElem? (i := 203) rfl)
theorem am_cd_264 : am_cq 264 := am_i7 (w := (Cond.code ({ cls := "PaperRiverModel", name := "count", desc := "(I)I" } : Jvm.MethodName) prog_14_method_112_code (2 : Nat) (Option.some Jvm.ClassFile.FieldType.int))) (List.mem_of_getElem? (i := 211) rfl)
theorem am_cd_265 : am_cq 265 := am_i7 (w := (Cond.code ({ cls := "PaperRiverModel", name := "image", desc := "(I)I" } : Jvm.MethodName) prog_14_method_115_code (2 : Nat) (Option.some Jvm.ClassFile.FieldType.int))) (List.mem_of_getElem? (i := 215) rfl)
theorem am_cd_266 : am_cq 266 := am_i7 (w := (Cond.code ({ cls := "PaperRiverModel", name := "back", desc := "(I)I" } : Jvm.MethodName) prog_14_method_116_code (2 : Nat) (Option.some Jvm.ClassFile.FieldType.int))) (List.mem_of_getElem? (i := 220) rfl)
theorem am_cn_0 : ∀ a, a < 0 → am_cq a := lt_0
theorem am_cn_1 : ∀ a, a < 1 → am_cq a := lt_s am_cn_0 am_cd_0
theorem am_cn_2 : ∀ a, a < 2 → am_cq a := lt_s am_cn_1 am_cd_1
theorem am_cn_3 : ∀ a, a < 3 → am_cq a := lt_s am_cn_2 am_cd_2
theorem am_cn_4 : ∀ a, a < 4 → am_cq a := lt_s am_cn_3 am_cd_3
theorem am_cn_5 : ∀ a, a < 5 → am_cq a := lt_s am_cn_4 am_cd_4
theorem am_cn_6 : ∀ a, a < 6 → am_cq a := lt_s am_cn_5 am_cd_5
theorem am_cn_7 : ∀ a, a < 7 → am_cq a := lt_s am_cn_6 am_cd_6
theorem am_cn_8 : ∀ a, a < 8 → am_cq a := lt_s am_cn_7 am_cd_7
theorem am_cn_9 : ∀ a, a < 9 → am_cq a := lt_s am_cn_8 am_cd_8
theorem am_cn_10 : ∀ a, a < 10 → am_cq a := lt_s am_cn_9 am_cd_9
theorem am_cn_11 : ∀ a, a < 11 → am_cq a := lt_s am_cn_10 am_cd_10
theorem am_cn_12 : ∀ a, a < 12 → am_cq a := lt_s am_cn_11 am_cd_11
theorem am_cn_13 : ∀ a, a < 13 → am_cq a := lt_s am_cn_12 am_cd_12
theorem am_cn_14 : ∀ a, a < 14 → am_cq a := lt_s am_cn_13 am_cd_13
theorem am_cn_15 : ∀ a, a < 15 → am_cq a := lt_s am_cn_14 am_cd_14
theorem am_cn_16 : ∀ a, a < 16 → am_cq a := lt_s am_cn_15 am_cd_15
theorem am_cn_17 : ∀ a, a < 17 → am_cq a := lt_s am_cn_16 am_cd_16
theorem am_cn_18 : ∀ a, a < 18 → am_cq a := lt_s am_cn_17 am_cd_17
theorem am_cn_19 : ∀ a, a < 19 → am_cq a := lt_s am_cn_18 am_cd_18
theorem am_cn_20 : ∀ a, a < 20 → am_cq a := lt_s am_cn_19 am_cd_19
theorem am_cn_21 : ∀ a, a < 21 → am_cq a := lt_s am_cn_20 am_cd_20
theorem am_cn_22 : ∀ a, a < 22 → am_cq a := lt_s am_cn_21 am_cd_21
theorem am_cn_23 : ∀ a, a < 23 → am_cq a := lt_s am_cn_22 am_cd_22
theorem am_cn_24 : ∀ a, a < 24 → am_cq a := lt_s am_cn_23 am_cd_23
theorem am_cn_25 : ∀ a, a < 25 → am_cq a := lt_s am_cn_24 am_cd_24
theorem am_cn_26 : ∀ a, a < 26 → am_cq a := lt_s am_cn_25 am_cd_25
theorem am_cn_27 : ∀ a, a < 27 → am_cq a := lt_s am_cn_26 am_cd_26
theorem am_cn_28 : ∀ a, a < 28 → am_cq a := lt_s am_cn_27 am_cd_27
theorem am_cn_29 : ∀ a, a < 29 → am_cq a := lt_s am_cn_28 am_cd_28
theorem am_cn_30 : ∀ a, a < 30 → am_cq a := lt_s am_cn_29 am_cd_29
theorem am_cn_31 : ∀ a, a < 31 → am_cq a := lt_s am_cn_30 am_cd_30
theorem am_cn_32 : ∀ a, a < 32 → am_cq a := lt_s am_cn_31 am_cd_31
theorem am_cn_33 : ∀ a, a < 33 → am_cq a := lt_s am_cn_32 am_cd_32
theorem am_cn_34 : ∀ a, a < 34 → am_cq a := lt_s am_cn_33 am_cd_33
theorem am_cn_35 : ∀ a, a < 35 → am_cq a := lt_s am_cn_34 am_cd_34
theorem am_cn_36 : ∀ a, a < 36 → am_cq a := lt_s am_cn_35 am_cd_35
theorem am_cn_37 : ∀ a, a < 37 → am_cq a := lt_s am_cn_36 am_cd_36
theorem am_cn_38 : ∀ a, a < 38 → am_cq a := lt_s am_cn_37 am_cd_37
theorem am_cn_39 : ∀ a, a < 39 → am_cq a := lt_s am_cn_38 am_cd_38
theorem am_cn_40 : ∀ a, a < 40 → am_cq a := lt_s am_cn_39 am_cd_39
theorem am_cn_41 : ∀ a, a < 41 → am_cq a := lt_s am_cn_40 am_cd_40
theorem am_cn_42 : ∀ a, a < 42 → am_cq a := lt_s am_cn_41 am_cd_41
theorem am_cn_43 : ∀ a, a < 43 → am_cq a := lt_s am_cn_42 am_cd_42
theorem am_cn_44 : ∀ a, a < 44 → am_cq a := lt_s am_cn_43 am_cd_43
theorem am_cn_45 : ∀ a, a < 45 → am_cq a := lt_s am_cn_44 am_cd_44
theorem am_cn_46 : ∀ a, a < 46 → am_cq a := lt_s am_cn_45 am_cd_45
theorem am_cn_47 : ∀ a, a < 47 → am_cq a := lt_s am_cn_46 am_cd_46
theorem am_cn_48 : ∀ a, a < 48 → am_cq a := lt_s am_cn_47 am_cd_47
theorem am_cn_49 : ∀ a, a < 49 → am_cq a := lt_s am_cn_48 am_cd_48
theorem am_cn_50 : ∀ a, a < 50 → am_cq a := lt_s am_cn_49 am_cd_49
theorem am_cn_51 : ∀ a, a < 51 → am_cq a := lt_s am_cn_50 am_cd_50
theorem am_cn_52 : ∀ a, a < 52 → am_cq a := lt_s am_cn_51 am_cd_51
theorem am_cn_53 : ∀ a, a < 53 → am_cq a := lt_s am_cn_52 am_cd_52
theorem am_cn_54 : ∀ a, a < 54 → am_cq a := lt_s am_cn_53 am_cd_53
theorem am_cn_55 : ∀ a, a < 55 → am_cq a := lt_s am_cn_54 am_cd_54
theorem am_cn_56 : ∀ a, a < 56 → am_cq a := lt_s am_cn_55 am_cd_55
theorem am_cn_57 : ∀ a, a < 57 → am_cq a := lt_s am_cn_56 am_cd_56
theorem am_cn_58 : ∀ a, a < 58 → am_cq a := lt_s am_cn_57 am_cd_57
theorem am_cn_59 : ∀ a, a < 59 → am_cq a := lt_s am_cn_58 am_cd_58
theorem am_cn_60 : ∀ a, a < 60 → am_cq a := lt_s am_cn_59 am_cd_59
theorem am_cn_61 : ∀ a, a < 61 → am_cq a := lt_s am_cn_60 am_cd_60
theorem am_cn_62 : ∀ a, a < 62 → am_cq a := lt_s am_cn_61 am_cd_61
theorem am_cn_63 : ∀ a, a < 63 → am_cq a := lt_s am_cn_62 am_cd_62
theorem am_cn_64 : ∀ a, a < 64 → am_cq a := lt_s am_cn_63 am_cd_63
theorem am_cn_65 : ∀ a, a < 65 → am_cq a := lt_s am_cn_64 am_cd_64
theorem am_cn_66 : ∀ a, a < 66 → am_cq a := lt_s am_cn_65 am_cd_65
theorem am_cn_67 : ∀ a, a < 67 → am_cq a := lt_s am_cn_66 am_cd_66
theorem am_cn_68 : ∀ a, a < 68 → am_cq a := lt_s am_cn_67 am_cd_67
theorem am_cn_69 : ∀ a, a < 69 → am_cq a := lt_s am_cn_68 am_cd_68
theorem am_cn_70 : ∀ a, a < 70 → am_cq a := lt_s am_cn_69 am_cd_69
theorem am_cn_71 : ∀ a, a < 71 → am_cq a := lt_s am_cn_70 am_cd_70
theorem am_cn_72 : ∀ a, a < 72 → am_cq a := lt_s am_cn_71 am_cd_71
theorem am_cn_73 : ∀ a, a < 73 → am_cq a := lt_s am_cn_72 am_cd_72
theorem am_cn_74 : ∀ a, a < 74 → am_cq a := lt_s am_cn_73 am_cd_73
theorem am_cn_75 : ∀ a, a < 75 → am_cq a := lt_s am_cn_74 am_cd_74
theorem am_cn_76 : ∀ a, a < 76 → am_cq a := lt_s am_cn_75 am_cd_75
theorem am_cn_77 : ∀ a, a < 77 → am_cq a := lt_s am_cn_76 am_cd_76
theorem am_cn_78 : ∀ a, a < 78 → am_cq a := lt_s am_cn_77 am_cd_77
theorem am_cn_79 : ∀ a, a < 79 → am_cq a := lt_s am_cn_78 am_cd_78
theorem am_cn_80 : ∀ a, a < 80 → am_cq a := lt_s am_cn_79 am_cd_79
theorem am_cn_81 : ∀ a, a < 81 → am_cq a := lt_s am_cn_80 am_cd_80
theorem am_cn_82 : ∀ a, a < 82 → am_cq a := lt_s am_cn_81 am_cd_81
theorem am_cn_83 : ∀ a, a < 83 → am_cq a := lt_s am_cn_82 am_cd_82
theorem am_cn_84 : ∀ a, a < 84 → am_cq a := lt_s am_cn_83 am_cd_83
theorem am_cn_85 : ∀ a, a < 85 → am_cq a := lt_s am_cn_84 am_cd_84
theorem am_cn_86 : ∀ a, a < 86 → am_cq a := lt_s am_cn_85 am_cd_85
theorem am_cn_87 : ∀ a, a < 87 → am_cq a := lt_s am_cn_86 am_cd_86
theorem am_cn_88 : ∀ a, a < 88 → am_cq a := lt_s am_cn_87 am_cd_87
theorem am_cn_89 : ∀ a, a < 89 → am_cq a := lt_s am_cn_88 am_cd_88
theorem am_cn_90 : ∀ a, a < 90 → am_cq a := lt_s am_cn_89 am_cd_89
theorem am_cn_91 : ∀ a, a < 91 → am_cq a := lt_s am_cn_90 am_cd_90
theorem am_cn_92 : ∀ a, a < 92 → am_cq a := lt_s am_cn_91 am_cd_91
theorem am_cn_93 : ∀ a, a < 93 → am_cq a := lt_s am_cn_92 am_cd_92
theorem am_cn_94 : ∀ a, a < 94 → am_cq a := lt_s am_cn_93 am_cd_93
theorem am_cn_95 : ∀ a, a < 95 → am_cq a := lt_s am_cn_94 am_cd_94
theorem am_cn_96 : ∀ a, a < 96 → am_cq a := lt_s am_cn_95 am_cd_95
theorem am_cn_97 : ∀ a, a < 97 → am_cq a := lt_s am_cn_96 am_cd_96
theorem am_cn_98 : ∀ a, a < 98 → am_cq a := lt_s am_cn_97 am_cd_97
theorem am_cn_99 : ∀ a, a < 99 → am_cq a := lt_s am_cn_98 am_cd_98
theorem am_cn_100 : ∀ a, a < 100 → am_cq a := lt_s am_cn_99 am_cd_99
theorem am_cn_101 : ∀ a, a < 101 → am_cq a := lt_s am_cn_100 am_cd_100
theorem am_cn_102 : ∀ a, a < 102 → am_cq a := lt_s am_cn_101 am_cd_101
theorem am_cn_103 : ∀ a, a < 103 → am_cq a := lt_s am_cn_102 am_cd_102
theorem am_cn_104 : ∀ a, a < 104 → am_cq a := lt_s am_cn_103 am_cd_103
theorem am_cn_105 : ∀ a, a < 105 → am_cq a := lt_s am_cn_104 am_cd_104
theorem am_cn_106 : ∀ a, a < 106 → am_cq a := lt_s am_cn_105 am_cd_105
theorem am_cn_107 : ∀ a, a < 107 → am_cq a := lt_s am_cn_106 am_cd_106
theorem am_cn_108 : ∀ a, a < 108 → am_cq a := lt_s am_cn_107 am_cd_107
theorem am_cn_109 : ∀ a, a < 109 → am_cq a := lt_s am_cn_108 am_cd_108
theorem am_cn_110 : ∀ a, a < 110 → am_cq a := lt_s am_cn_109 am_cd_109
theorem am_cn_111 : ∀ a, a < 111 → am_cq a := lt_s am_cn_110 am_cd_110
theorem am_cn_112 : ∀ a, a < 112 → am_cq a := lt_s am_cn_111 am_cd_111
theorem am_cn_113 : ∀ a, a < 113 → am_cq a := lt_s am_cn_112 am_cd_112
theorem am_cn_114 : ∀ a, a < 114 → am_cq a := lt_s am_cn_113 am_cd_113
theorem am_cn_115 : ∀ a, a < 115 → am_cq a := lt_s am_cn_114 am_cd_114
theorem am_cn_116 : ∀ a, a < 116 → am_cq a := lt_s am_cn_115 am_cd_115
theorem am_cn_117 : ∀ a, a < 117 → am_cq a := lt_s am_cn_116 am_cd_116
theorem am_cn_118 : ∀ a, a < 118 → am_cq a := lt_s am_cn_117 am_cd_117
theorem am_cn_119 : ∀ a, a < 119 → am_cq a := lt_s am_cn_118 am_cd_118
theorem am_cn_120 : ∀ a, a < 120 → am_cq a := lt_s am_cn_119 am_cd_119
theorem am_cn_121 : ∀ a, a < 121 → am_cq a := lt_s am_cn_120 am_cd_120
theorem am_cn_122 : ∀ a, a < 122 → am_cq a := lt_s am_cn_121 am_cd_121
theorem am_cn_123 : ∀ a, a < 123 → am_cq a := lt_s am_cn_122 am_cd_122
theorem am_cn_124 : ∀ a, a < 124 → am_cq a := lt_s am_cn_123 am_cd_123
theorem am_cn_125 : ∀ a, a < 125 → am_cq a := lt_s am_cn_124 am_cd_124
theorem am_cn_126 : ∀ a, a < 126 → am_cq a := lt_s am_cn_125 am_cd_125
theorem am_cn_127 : ∀ a, a < 127 → am_cq a := lt_s am_cn_126 am_cd_126
theorem am_cn_128 : ∀ a, a < 128 → am_cq a := lt_s am_cn_127 am_cd_127
theorem am_cn_129 : ∀ a, a < 129 → am_cq a := lt_s am_cn_128 am_cd_128
theorem am_cn_130 : ∀ a, a < 130 → am_cq a := lt_s am_cn_129 am_cd_129
theorem am_cn_131 : ∀ a, a < 131 → am_cq a := lt_s am_cn_130 am_cd_130
theorem am_cn_132 : ∀ a, a < 132 → am_cq a := lt_s am_cn_131 am_cd_131
theorem am_cn_133 : ∀ a, a < 133 → am_cq a := lt_s am_cn_132 am_cd_132
theorem am_cn_134 : ∀ a, a < 134 → am_cq a := lt_s am_cn_133 am_cd_133
theorem am_cn_135 : ∀ a, a < 135 → am_cq a := lt_s am_cn_134 am_cd_134
theorem am_cn_136 : ∀ a, a < 136 → am_cq a := lt_s am_cn_135 am_cd_135
theorem am_cn_137 : ∀ a, a < 137 → am_cq a := lt_s am_cn_136 am_cd_136
theorem am_cn_138 : ∀ a, a < 138 → am_cq a := lt_s am_cn_137 am_cd_137
theorem am_cn_139 : ∀ a, a < 139 → am_cq a := lt_s am_cn_138 am_cd_138
theorem am_cn_140 : ∀ a, a < 140 → am_cq a := lt_s am_cn_139 am_cd_139
theorem am_cn_141 : ∀ a, a < 141 → am_cq a := lt_s am_cn_140 am_cd_140
theorem am_cn_142 : ∀ a, a < 142 → am_cq a := lt_s am_cn_141 am_cd_141
theorem am_cn_143 : ∀ a, a < 143 → am_cq a := lt_s am_cn_142 am_cd_142
theorem am_cn_144 : ∀ a, a < 144 → am_cq a := lt_s am_cn_143 am_cd_143
theorem am_cn_145 : ∀ a, a < 145 → am_cq a := lt_s am_cn_144 am_cd_144
theorem am_cn_146 : ∀ a, a < 146 → am_cq a := lt_s am_cn_145 am_cd_145
theorem am_cn_147 : ∀ a, a < 147 → am_cq a := lt_s am_cn_146 am_cd_146
theorem am_cn_148 : ∀ a, a < 148 → am_cq a := lt_s am_cn_147 am_cd_147
theorem am_cn_149 : ∀ a, a < 149 → am_cq a := lt_s am_cn_148 am_cd_148
theorem am_cn_150 : ∀ a, a < 150 → am_cq a := lt_s am_cn_149 am_cd_149
theorem am_cn_151 : ∀ a, a < 151 → am_cq a := lt_s am_cn_150 am_cd_150
theorem am_cn_152 : ∀ a, a < 152 → am_cq a := lt_s am_cn_151 am_cd_151
theorem am_cn_153 : ∀ a, a < 153 → am_cq a := lt_s am_cn_152 am_cd_152
theorem am_cn_154 : ∀ a, a < 154 → am_cq a := lt_s am_cn_153 am_cd_153
theorem am_cn_155 : ∀ a, a < 155 → am_cq a := lt_s am_cn_154 am_cd_154
theorem am_cn_156 : ∀ a, a < 156 → am_cq a := lt_s am_cn_155 am_cd_155
theorem am_cn_157 : ∀ a, a < 157 → am_cq a := lt_s am_cn_156 am_cd_156
theorem am_cn_158 : ∀ a, a < 158 → am_cq a := lt_s am_cn_157 am_cd_157
theorem am_cn_159 : ∀ a, a < 159 → am_cq a := lt_s am_cn_158 am_cd_158
theorem am_cn_160 : ∀ a, a < 160 → am_cq a := lt_s am_cn_159 am_cd_159
theorem am_cn_161 : ∀ a, a < 161 → am_cq a := lt_s am_cn_160 am_cd_160
theorem am_cn_162 : ∀ a, a < 162 → am_cq a := lt_s am_cn_161 am_cd_161
theorem am_cn_163 : ∀ a, a < 163 → am_cq a := lt_s am_cn_162 am_cd_162
theorem am_cn_164 : ∀ a, a < 164 → am_cq a := lt_s am_cn_163 am_cd_163
theorem am_cn_165 : ∀ a, a < 165 → am_cq a := lt_s am_cn_164 am_cd_164
theorem am_cn_166 : ∀ a, a < 166 → am_cq a := lt_s am_cn_165 am_cd_165
theorem am_cn_167 : ∀ a, a < 167 → am_cq a := lt_s am_cn_166 am_cd_166
theorem am_cn_168 : ∀ a, a < 168 → am_cq a := lt_s am_cn_167 am_cd_167
theorem am_cn_169 : ∀ a, a < 169 → am_cq a := lt_s am_cn_168 am_cd_168
theorem am_cn_170 : ∀ a, a < 170 → am_cq a := lt_s am_cn_169 am_cd_169
theorem am_cn_171 : ∀ a, a < 171 → am_cq a := lt_s am_cn_170 am_cd_170
theorem am_cn_172 : ∀ a, a < 172 → am_cq a := lt_s am_cn_171 am_cd_171
theorem am_cn_173 : ∀ a, a < 173 → am_cq a := lt_s am_cn_172 am_cd_172
theorem am_cn_174 : ∀ a, a < 174 → am_cq a := lt_s am_cn_173 am_cd_173
theorem am_cn_175 : ∀ a, a < 175 → am_cq a := lt_s am_cn_174 am_cd_174
theorem am_cn_176 : ∀ a, a < 176 → am_cq a := lt_s am_cn_175 am_cd_175
theorem am_cn_177 : ∀ a, a < 177 → am_cq a := lt_s am_cn_176 am_cd_176
theorem am_cn_178 : ∀ a, a < 178 → am_cq a := lt_s am_cn_177 am_cd_177
theorem am_cn_179 : ∀ a, a < 179 → am_cq a := lt_s am_cn_178 am_cd_178
theorem am_cn_180 : ∀ a, a < 180 → am_cq a := lt_s am_cn_179 am_cd_179
theorem am_cn_181 : ∀ a, a < 181 → am_cq a := lt_s am_cn_180 am_cd_180
theorem am_cn_182 : ∀ a, a < 182 → am_cq a := lt_s am_cn_181 am_cd_181
theorem am_cn_183 : ∀ a, a < 183 → am_cq a := lt_s am_cn_182 am_cd_182
theorem am_cn_184 : ∀ a, a < 184 → am_cq a := lt_s am_cn_183 am_cd_183
theorem am_cn_185 : ∀ a, a < 185 → am_cq a := lt_s am_cn_184 am_cd_184
theorem am_cn_186 : ∀ a, a < 186 → am_cq a := lt_s am_cn_185 am_cd_185
theorem am_cn_187 : ∀ a, a < 187 → am_cq a := lt_s am_cn_186 am_cd_186
theorem am_cn_188 : ∀ a, a < 188 → am_cq a := lt_s am_cn_187 am_cd_187
theorem am_cn_189 : ∀ a, a < 189 → am_cq a := lt_s am_cn_188 am_cd_188
theorem am_cn_190 : ∀ a, a < 190 → am_cq a := lt_s am_cn_189 am_cd_189
theorem am_cn_191 : ∀ a, a < 191 → am_cq a := lt_s am_cn_190 am_cd_190
theorem am_cn_192 : ∀ a, a < 192 → am_cq a := lt_s am_cn_191 am_cd_191
theorem am_cn_193 : ∀ a, a < 193 → am_cq a := lt_s am_cn_192 am_cd_192
theorem am_cn_194 : ∀ a, a < 194 → am_cq a := lt_s am_cn_193 am_cd_193
theorem am_cn_195 : ∀ a, a < 195 → am_cq a := lt_s am_cn_194 am_cd_194
theorem am_cn_196 : ∀ a, a < 196 → am_cq a := lt_s am_cn_195 am_cd_195
theorem am_cn_197 : ∀ a, a < 197 → am_cq a := lt_s am_cn_196 am_cd_196
theorem am_cn_198 : ∀ a, a < 198 → am_cq a := lt_s am_cn_197 am_cd_197
theorem am_cn_199 : ∀ a, a < 199 → am_cq a := lt_s am_cn_198 am_cd_198
theorem am_cn_200 : ∀ a, a < 200 → am_cq a := lt_s am_cn_199 am_cd_199
theorem am_cn_201 : ∀ a, a < 201 → am_cq a := lt_s am_cn_200 am_cd_200
theorem am_cn_202 : ∀ a, a < 202 → am_cq a := lt_s am_cn_201 am_cd_201
theorem am_cn_203 : ∀ a, a < 203 → am_cq a := lt_s am_cn_202 am_cd_202
theorem am_cn_204 : ∀ a, a < 204 → am_cq a := lt_s am_cn_203 am_cd_203
theorem am_cn_205 : ∀ a, a < 205 → am_cq a := lt_s am_cn_204 am_cd_204
theorem am_cn_206 : ∀ a, a < 206 → am_cq a := lt_s am_cn_205 am_cd_205
theorem am_cn_207 : ∀ a, a < 207 → am_cq a := lt_s am_cn_206 am_cd_206
theorem am_cn_208 : ∀ a, a < 208 → am_cq a := lt_s am_cn_207 am_cd_207
theorem am_cn_209 : ∀ a, a < 209 → am_cq a := lt_s am_cn_208 am_cd_208
theorem am_cn_210 : ∀ a, a < 210 → am_cq a := lt_s am_cn_209 am_cd_209
theorem am_cn_211 : ∀ a, a < 211 → am_cq a := lt_s am_cn_210 am_cd_210
theorem am_cn_212 : ∀ a, a < 212 → am_cq a := lt_s am_cn_211 am_cd_211
theorem am_cn_213 : ∀ a, a < 213 → am_cq a := lt_s am_cn_212 am_cd_212
theorem am_cn_214 : ∀ a, a < 214 → am_cq a := lt_s am_cn_213 am_cd_213
theorem am_cn_215 : ∀ a, a < 215 → am_cq a := lt_s am_cn_214 am_cd_214
theorem am_cn_216 : ∀ a, a < 216 → am_cq a := lt_s am_cn_215 am_cd_215
theorem am_cn_217 : ∀ a, a < 217 → am_cq a := lt_s am_cn_216 am_cd_216
theorem am_cn_218 : ∀ a, a < 218 → am_cq a := lt_s am_cn_217 am_cd_217
theorem am_cn_219 : ∀ a, a < 219 → am_cq a := lt_s am_cn_218 am_cd_218
theorem am_cn_220 : ∀ a, a < 220 → am_cq a := lt_s am_cn_219 am_cd_219
theorem am_cn_221 : ∀ a, a < 221 → am_cq a := lt_s am_cn_220 am_cd_220
theorem am_cn_222 : ∀ a, a < 222 → am_cq a := lt_s am_cn_221 am_cd_221
theorem am_cn_223 : ∀ a, a < 223 → am_cq a := lt_s am_cn_222 am_cd_222
theorem am_cn_224 : ∀ a, a < 224 → am_cq a := lt_s am_cn_223 am_cd_223
theorem am_cn_225 : ∀ a, a < 225 → am_cq a := lt_s am_cn_224 am_cd_224
theorem am_cn_226 : ∀ a, a < 226 → am_cq a := lt_s am_cn_225 am_cd_225
theorem am_cn_227 : ∀ a, a < 227 → am_cq a := lt_s am_cn_226 am_cd_226
theorem am_cn_228 : ∀ a, a < 228 → am_cq a := lt_s am_cn_227 am_cd_227
theorem am_cn_229 : ∀ a, a < 229 → am_cq a := lt_s am_cn_228 am_cd_228
theorem am_cn_230 : ∀ a, a < 230 → am_cq a := lt_s am_cn_229 am_cd_229
theorem am_cn_231 : ∀ a, a < 231 → am_cq a := lt_s am_cn_230 am_cd_230
theorem am_cn_232 : ∀ a, a < 232 → am_cq a := lt_s am_cn_231 am_cd_231
theorem am_cn_233 : ∀ a, a < 233 → am_cq a := lt_s am_cn_232 am_cd_232
theorem am_cn_234 : ∀ a, a < 234 → am_cq a := lt_s am_cn_233 am_cd_233
theorem am_cn_235 : ∀ a, a < 235 → am_cq a := lt_s am_cn_234 am_cd_234
theorem am_cn_236 : ∀ a, a < 236 → am_cq a := lt_s am_cn_235 am_cd_235
theorem am_cn_237 : ∀ a, a < 237 → am_cq a := lt_s am_cn_236 am_cd_236
theorem am_cn_238 : ∀ a, a < 238 → am_cq a := lt_s am_cn_237 am_cd_237
theorem am_cn_239 : ∀ a, a < 239 → am_cq a := lt_s am_cn_238 am_cd_238
theorem am_cn_240 : ∀ a, a < 240 → am_cq a := lt_s am_cn_239 am_cd_239
theorem am_cn_241 : ∀ a, a < 241 → am_cq a := lt_s am_cn_240 am_cd_240
theorem am_cn_242 : ∀ a, a < 242 → am_cq a := lt_s am_cn_241 am_cd_241
theorem am_cn_243 : ∀ a, a < 243 → am_cq a := lt_s am_cn_242 am_cd_242
theorem am_cn_244 : ∀ a, a < 244 → am_cq a := lt_s am_cn_243 am_cd_243
theorem am_cn_245 : ∀ a, a < 245 → am_cq a := lt_s am_cn_244 am_cd_244
theorem am_cn_246 : ∀ a, a < 246 → am_cq a := lt_s am_cn_245 am_cd_245
theorem am_cn_247 : ∀ a, a < 247 → am_cq a := lt_s am_cn_246 am_cd_246
theorem am_cn_248 : ∀ a, a < 248 → am_cq a := lt_s am_cn_247 am_cd_247
theorem am_cn_249 : ∀ a, a < 249 → am_cq a := lt_s am_cn_248 am_cd_248
theorem am_cn_250 : ∀ a, a < 250 → am_cq a := lt_s am_cn_249 am_cd_249
theorem am_cn_251 : ∀ a, a < 251 → am_cq a := lt_s am_cn_250 am_cd_250
theorem am_cn_252 : ∀ a, a < 252 → am_cq a := lt_s am_cn_251 am_cd_251
theorem am_cn_253 : ∀ a, a < 253 → am_cq a := lt_s am_cn_252 am_cd_252
theorem am_cn_254 : ∀ a, a < 254 → am_cq a := lt_s am_cn_253 am_cd_253
theorem am_cn_255 : ∀ a, a < 255 → am_cq a := lt_s am_cn_254 am_cd_254
theorem am_cn_256 : ∀ a, a < 256 → am_cq a := lt_s am_cn_255 am_cd_255
theorem am_cn_257 : ∀ a, a < 257 → am_cq a := lt_s am_cn_256 am_cd_256
theorem am_cn_258 : ∀ a, a < 258 → am_cq a := lt_s am_cn_257 am_cd_257
theorem am_cn_259 : ∀ a, a < 259 → am_cq a := lt_s am_cn_258 am_cd_258
theorem am_cn_260 : ∀ a, a < 260 → am_cq a := lt_s am_cn_259 am_cd_259
theorem am_cn_261 : ∀ a, a < 261 → am_cq a := lt_s am_cn_260 am_cd_260
theorem am_cn_262 : ∀ a, a < 262 → am_cq a := lt_s am_cn_261 am_cd_261
theorem am_cn_263 : ∀ a, a < 263 → am_cq a := lt_s am_cn_262 am_cd_262
theorem am_cn_264 : ∀ a, a < 264 → am_cq a := lt_s am_cn_263 am_cd_263
theorem am_cn_265 : ∀ a, a < 265 → am_cq a := lt_s am_cn_264 am_cd_264
theorem am_cn_266 : ∀ a, a < 266 → am_cq a := lt_s am_cn_265 am_cd_265
theorem am_cn_267 : ∀ a, a < 267 → am_cq a := lt_s am_cn_266 am_cd_266
