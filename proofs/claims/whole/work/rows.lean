section
-- ===== PART A: goes FIRST, ahead of the names: the tables' words, and 'selects' of the private methods out of them =====
/-- a private method of a class that the tables say can be made, by its rows of tables_1 -/
def lw_okq (q : MethodName × Nat) : Prop := (q.1.cls ≠ "java/lang/invoke/MethodHandle" ∧ q.1.cls ≠ "java/lang/invoke/VarHandle") ∧ Cond.instantiable q.1.cls q.2 ∈ tables_1 ∧ Cond.privateMethod q.1 ∈ tables_1 ∧ Cond.instanceMethod q.1 ∈ tables_1
theorem lw_p0 : lw_okq (⟨"java/util/ArrayList", "add", "(Ljava/lang/Object;[Ljava/lang/Object;I)V"⟩, 3) := ⟨⟨by decide +kernel, by decide +kernel⟩, List.mem_of_getElem? (i := 24) (by decide +kernel), List.mem_of_getElem? (i := 131) (by decide +kernel), List.mem_of_getElem? (i := 132) (by decide +kernel)⟩
theorem lw_p1 : lw_okq (⟨"java/util/ArrayList", "grow", "()[Ljava/lang/Object;"⟩, 3) := ⟨⟨by decide +kernel, by decide +kernel⟩, List.mem_of_getElem? (i := 24) (by decide +kernel), List.mem_of_getElem? (i := 135) (by decide +kernel), List.mem_of_getElem? (i := 136) (by decide +kernel)⟩
theorem lw_p2 : lw_okq (⟨"java/util/ArrayList", "grow", "(I)[Ljava/lang/Object;"⟩, 3) := ⟨⟨by decide +kernel, by decide +kernel⟩, List.mem_of_getElem? (i := 24) (by decide +kernel), List.mem_of_getElem? (i := 139) (by decide +kernel), List.mem_of_getElem? (i := 140) (by decide +kernel)⟩
theorem lw_p3 : lw_okq (⟨"HyphenRows", "isLanguage", "(I)Z"⟩, 13) := ⟨⟨by decide +kernel, by decide +kernel⟩, List.mem_of_getElem? (i := 16) (by decide +kernel), List.mem_of_getElem? (i := 184) (by decide +kernel), List.mem_of_getElem? (i := 185) (by decide +kernel)⟩
theorem lw_p4 : lw_okq (⟨"HyphenRows", "isPatternRow", "(I)Z"⟩, 13) := ⟨⟨by decide +kernel, by decide +kernel⟩, List.mem_of_getElem? (i := 16) (by decide +kernel), List.mem_of_getElem? (i := 226) (by decide +kernel), List.mem_of_getElem? (i := 227) (by decide +kernel)⟩
theorem lw_p5 : lw_okq (⟨"HyphenRows", "patternWithMadeRow", "(II)I"⟩, 13) := ⟨⟨by decide +kernel, by decide +kernel⟩, List.mem_of_getElem? (i := 16) (by decide +kernel), List.mem_of_getElem? (i := 230) (by decide +kernel), List.mem_of_getElem? (i := 231) (by decide +kernel)⟩
theorem lw_p6 : lw_okq (⟨"HyphenRows", "addPattern", "(II)I"⟩, 13) := ⟨⟨by decide +kernel, by decide +kernel⟩, List.mem_of_getElem? (i := 16) (by decide +kernel), List.mem_of_getElem? (i := 239) (by decide +kernel), List.mem_of_getElem? (i := 240) (by decide +kernel)⟩
theorem lw_p7 : lw_okq (⟨"HyphenRows", "spellWord", "(LHyphenRows$Language;)Z"⟩, 13) := ⟨⟨by decide +kernel, by decide +kernel⟩, List.mem_of_getElem? (i := 16) (by decide +kernel), List.mem_of_getElem? (i := 283) (by decide +kernel), List.mem_of_getElem? (i := 284) (by decide +kernel)⟩
theorem lw_p8 : lw_okq (⟨"HyphenRows", "exceptionWithWordsLetters", "(I)I"⟩, 13) := ⟨⟨by decide +kernel, by decide +kernel⟩, List.mem_of_getElem? (i := 16) (by decide +kernel), List.mem_of_getElem? (i := 287) (by decide +kernel), List.mem_of_getElem? (i := 288) (by decide +kernel)⟩
theorem lw_p9 : lw_okq (⟨"java/util/ArrayList", "fastRemove", "([Ljava/lang/Object;I)V"⟩, 3) := ⟨⟨by decide +kernel, by decide +kernel⟩, List.mem_of_getElem? (i := 24) (by decide +kernel), List.mem_of_getElem? (i := 327) (by decide +kernel), List.mem_of_getElem? (i := 328) (by decide +kernel)⟩
theorem lw_p10 : lw_okq (⟨"HyphenRows", "staysWhole", "(LHyphenRows$Language;)Z"⟩, 13) := ⟨⟨by decide +kernel, by decide +kernel⟩, List.mem_of_getElem? (i := 16) (by decide +kernel), List.mem_of_getElem? (i := 336) (by decide +kernel), List.mem_of_getElem? (i := 337) (by decide +kernel)⟩
theorem lw_p11 : lw_okq (⟨"HyphenRows", "findRowDigits", "(I)V"⟩, 13) := ⟨⟨by decide +kernel, by decide +kernel⟩, List.mem_of_getElem? (i := 16) (by decide +kernel), List.mem_of_getElem? (i := 340) (by decide +kernel), List.mem_of_getElem? (i := 341) (by decide +kernel)⟩
theorem lw_p12 : lw_okq (⟨"HyphenRows", "takeToldPlaces", "(I)V"⟩, 13) := ⟨⟨by decide +kernel, by decide +kernel⟩, List.mem_of_getElem? (i := 16) (by decide +kernel), List.mem_of_getElem? (i := 347) (by decide +kernel), List.mem_of_getElem? (i := 348) (by decide +kernel)⟩
theorem lw_p13 : lw_okq (⟨"HyphenRows", "layOverRow", "(LHyphenRows$Pattern;)V"⟩, 13) := ⟨⟨by decide +kernel, by decide +kernel⟩, List.mem_of_getElem? (i := 16) (by decide +kernel), List.mem_of_getElem? (i := 351) (by decide +kernel), List.mem_of_getElem? (i := 352) (by decide +kernel)⟩
theorem lw_p14 : lw_okq (⟨"HyphenRows", "raiseDigits", "([II)V"⟩, 13) := ⟨⟨by decide +kernel, by decide +kernel⟩, List.mem_of_getElem? (i := 16) (by decide +kernel), List.mem_of_getElem? (i := 355) (by decide +kernel), List.mem_of_getElem? (i := 356) (by decide +kernel)⟩
theorem lw_p15 : lw_okq (⟨"HyphenRowsModel", "isLanguage", "(I)Z"⟩, 25) := ⟨⟨by decide +kernel, by decide +kernel⟩, List.mem_of_getElem? (i := 376) (by decide +kernel), List.mem_of_getElem? (i := 466) (by decide +kernel), List.mem_of_getElem? (i := 467) (by decide +kernel)⟩
def lw_privs_1 : List (MethodName × Nat) := [(⟨"java/util/ArrayList", "add", "(Ljava/lang/Object;[Ljava/lang/Object;I)V"⟩, 3), (⟨"java/util/ArrayList", "grow", "()[Ljava/lang/Object;"⟩, 3), (⟨"java/util/ArrayList", "grow", "(I)[Ljava/lang/Object;"⟩, 3), (⟨"HyphenRows", "isLanguage", "(I)Z"⟩, 13), (⟨"HyphenRows", "isPatternRow", "(I)Z"⟩, 13), (⟨"HyphenRows", "patternWithMadeRow", "(II)I"⟩, 13), (⟨"HyphenRows", "addPattern", "(II)I"⟩, 13), (⟨"HyphenRows", "spellWord", "(LHyphenRows$Language;)Z"⟩, 13), (⟨"HyphenRows", "exceptionWithWordsLetters", "(I)I"⟩, 13), (⟨"java/util/ArrayList", "fastRemove", "([Ljava/lang/Object;I)V"⟩, 3), (⟨"HyphenRows", "staysWhole", "(LHyphenRows$Language;)Z"⟩, 13), (⟨"HyphenRows", "findRowDigits", "(I)V"⟩, 13), (⟨"HyphenRows", "takeToldPlaces", "(I)V"⟩, 13), (⟨"HyphenRows", "layOverRow", "(LHyphenRows$Pattern;)V"⟩, 13), (⟨"HyphenRows", "raiseDigits", "([II)V"⟩, 13), (⟨"HyphenRowsModel", "isLanguage", "(I)Z"⟩, 25)]
theorem lw_r1 : ∀ q ∈ lw_privs_1, lw_okq q := List.forall_mem_cons.mpr ⟨lw_p0, List.forall_mem_cons.mpr ⟨lw_p1, List.forall_mem_cons.mpr ⟨lw_p2, List.forall_mem_cons.mpr ⟨lw_p3, List.forall_mem_cons.mpr ⟨lw_p4, List.forall_mem_cons.mpr ⟨lw_p5, List.forall_mem_cons.mpr ⟨lw_p6, List.forall_mem_cons.mpr ⟨lw_p7, List.forall_mem_cons.mpr ⟨lw_p8, List.forall_mem_cons.mpr ⟨lw_p9, List.forall_mem_cons.mpr ⟨lw_p10, List.forall_mem_cons.mpr ⟨lw_p11, List.forall_mem_cons.mpr ⟨lw_p12, List.forall_mem_cons.mpr ⟨lw_p13, List.forall_mem_cons.mpr ⟨lw_p14, List.forall_mem_cons.mpr ⟨lw_p15, fun _ h => absurd h List.not_mem_nil⟩⟩⟩⟩⟩⟩⟩⟩⟩⟩⟩⟩⟩⟩⟩⟩
theorem lw_p16 : lw_okq (⟨"HyphenRowsModel", "isSame", "(II)Z"⟩, 25) := ⟨⟨by decide +kernel, by decide +kernel⟩, List.mem_of_getElem? (i := 376) (by decide +kernel), List.mem_of_getElem? (i := 485) (by decide +kernel), List.mem_of_getElem? (i := 486) (by decide +kernel)⟩
theorem lw_p17 : lw_okq (⟨"HyphenRowsModel", "isPattern", "()Z"⟩, 25) := ⟨⟨by decide +kernel, by decide +kernel⟩, List.mem_of_getElem? (i := 376) (by decide +kernel), List.mem_of_getElem? (i := 489) (by decide +kernel), List.mem_of_getElem? (i := 490) (by decide +kernel)⟩
theorem lw_p18 : lw_okq (⟨"HyphenRowsModel", "spell", "(I)Z"⟩, 25) := ⟨⟨by decide +kernel, by decide +kernel⟩, List.mem_of_getElem? (i := 376) (by decide +kernel), List.mem_of_getElem? (i := 505) (by decide +kernel), List.mem_of_getElem? (i := 506) (by decide +kernel)⟩
theorem lw_p19 : lw_okq (⟨"HyphenRowsModel", "exceptionOf", "(I)I"⟩, 25) := ⟨⟨by decide +kernel, by decide +kernel⟩, List.mem_of_getElem? (i := 376) (by decide +kernel), List.mem_of_getElem? (i := 509) (by decide +kernel), List.mem_of_getElem? (i := 510) (by decide +kernel)⟩
theorem lw_p20 : lw_okq (⟨"HyphenRowsModel", "digitOf", "(II)I"⟩, 25) := ⟨⟨by decide +kernel, by decide +kernel⟩, List.mem_of_getElem? (i := 376) (by decide +kernel), List.mem_of_getElem? (i := 521) (by decide +kernel), List.mem_of_getElem? (i := 522) (by decide +kernel)⟩
theorem lw_p21 : lw_okq (⟨"HyphenRowsModel", "stands", "(II)Z"⟩, 25) := ⟨⟨by decide +kernel, by decide +kernel⟩, List.mem_of_getElem? (i := 376) (by decide +kernel), List.mem_of_getElem? (i := 525) (by decide +kernel), List.mem_of_getElem? (i := 526) (by decide +kernel)⟩
def lw_privs_2 : List (MethodName × Nat) := [(⟨"HyphenRowsModel", "isSame", "(II)Z"⟩, 25), (⟨"HyphenRowsModel", "isPattern", "()Z"⟩, 25), (⟨"HyphenRowsModel", "spell", "(I)Z"⟩, 25), (⟨"HyphenRowsModel", "exceptionOf", "(I)I"⟩, 25), (⟨"HyphenRowsModel", "digitOf", "(II)I"⟩, 25), (⟨"HyphenRowsModel", "stands", "(II)Z"⟩, 25)]
theorem lw_r2 : ∀ q ∈ lw_privs_2, lw_okq q := List.forall_mem_cons.mpr ⟨lw_p16, List.forall_mem_cons.mpr ⟨lw_p17, List.forall_mem_cons.mpr ⟨lw_p18, List.forall_mem_cons.mpr ⟨lw_p19, List.forall_mem_cons.mpr ⟨lw_p20, List.forall_mem_cons.mpr ⟨lw_p21, fun _ h => absurd h List.not_mem_nil⟩⟩⟩⟩⟩⟩
def lw_privs : List (MethodName × Nat) := lw_privs_1 ++ (lw_privs_2)
def lw_tbl : List Cond := k2_sels lw_privs ++ tables_1
theorem lw_privs_ok : ∀ q ∈ lw_privs, lw_okq q := by
  show ∀ q ∈ lw_privs_1 ++ (lw_privs_2), lw_okq q
  exact List.forall_mem_append.mpr ⟨lw_r1, lw_r2⟩
/-- the words that stay true from call to call -/
def lw_good : List Cond := lw_tbl.filter goodWord
theorem lw_good_ok : ∀ x ∈ lw_good, (x.onTables && x.keeps) = true ∨ ∃ ty, x = .arrayClass ty := fun x h => good_of_word (List.mem_filter.mp h).2
theorem lw_good_tbl : ∀ x ∈ lw_good, x ∈ lw_tbl := fun x h => (List.mem_filter.mp h).1
end
section
/-! NAMES: classes, fields, methods, decoded instructions, and every word of the tables by its place. Written by a program of mine out of the Statement's tables and the methods' bytes. -/
abbrev R_HR : String := "HyphenRows"
def F_HR : u_T := fun k => match k with
  | 0 => ("HyphenRows", "languages", "Ljava/util/ArrayList;", true)
  | 1 => ("HyphenRows", "patterns", "Ljava/util/ArrayList;", true)
  | 2 => ("HyphenRows", "exceptions", "Ljava/util/ArrayList;", true)
  | 3 => ("HyphenRows", "patternLetters", "I", false)
  | 4 => ("HyphenRows", "madeLetters", "[I", true)
  | 5 => ("HyphenRows", "madeDigits", "[I", true)
  | 6 => ("HyphenRows", "made", "I", false)
  | 7 => ("HyphenRows", "word", "[I", true)
  | 8 => ("HyphenRows", "length", "I", false)
  | 9 => ("HyphenRows", "row", "[I", true)
  | 10 => ("HyphenRows", "rowDigits", "[I", true)
  | 11 => ("HyphenRows", "runPlaces", "[I", true)
  | _ => ("HyphenRows", "runPlaceCount", "I", false)
def t_HR : Nat → FieldType := fun k => match k with
  | 0 => .object "java/util/ArrayList"
  | 1 => .object "java/util/ArrayList"
  | 2 => .object "java/util/ArrayList"
  | 3 => .int
  | 4 => .array .int
  | 5 => .array .int
  | 6 => .int
  | 7 => .array .int
  | 8 => .int
  | 9 => .array .int
  | 10 => .array .int
  | 11 => .array .int
  | _ => .int
theorem n_HR : ∀ a, a < 13 → ∀ b, b < 13 → a ≠ b → (F_HR a).2.1 ≠ (F_HR b).2.1 := by decide +kernel
theorem t_HR_ok : ∀ k, k < 13 → parseFieldDescriptor (F_HR k).2.2.1 = some (t_HR k) := by decide +kernel
abbrev R_La : String := "HyphenRows$Language"
def F_La : u_T := fun k => match k with
  | 0 => ("HyphenRows$Language", "letterOf", "[I", true)
  | 1 => ("HyphenRows$Language", "isCapital", "[Z", true)
  | 2 => ("HyphenRows$Language", "leastLeft", "I", false)
  | 3 => ("HyphenRows$Language", "leastRight", "I", false)
  | _ => ("HyphenRows$Language", "capitalsWhole", "Z", false)
def t_La : Nat → FieldType := fun k => match k with
  | 0 => .array .int
  | 1 => .array .boolean
  | 2 => .int
  | 3 => .int
  | _ => .boolean
theorem n_La : ∀ a, a < 5 → ∀ b, b < 5 → a ≠ b → (F_La a).2.1 ≠ (F_La b).2.1 := by decide +kernel
theorem t_La_ok : ∀ k, k < 5 → parseFieldDescriptor (F_La k).2.2.1 = some (t_La k) := by decide +kernel
abbrev R_Pa : String := "HyphenRows$Pattern"
def F_Pa : u_T := fun k => match k with
  | 0 => ("HyphenRows$Pattern", "language", "I", true)
  | 1 => ("HyphenRows$Pattern", "letters", "[I", true)
  | _ => ("HyphenRows$Pattern", "digits", "[I", true)
def t_Pa : Nat → FieldType := fun k => match k with
  | 0 => .int
  | 1 => .array .int
  | _ => .array .int
theorem n_Pa : ∀ a, a < 3 → ∀ b, b < 3 → a ≠ b → (F_Pa a).2.1 ≠ (F_Pa b).2.1 := by decide +kernel
theorem t_Pa_ok : ∀ k, k < 3 → parseFieldDescriptor (F_Pa k).2.2.1 = some (t_Pa k) := by decide +kernel
abbrev R_To : String := "HyphenRows$ToldWord"
def F_To : u_T := fun k => match k with
  | 0 => ("HyphenRows$ToldWord", "language", "I", true)
  | 1 => ("HyphenRows$ToldWord", "letters", "[I", true)
  | _ => ("HyphenRows$ToldWord", "places", "I", false)
def t_To : Nat → FieldType := fun k => match k with
  | 0 => .int
  | 1 => .array .int
  | _ => .int
theorem n_To : ∀ a, a < 3 → ∀ b, b < 3 → a ≠ b → (F_To a).2.1 ≠ (F_To b).2.1 := by decide +kernel
theorem t_To_ok : ∀ k, k < 3 → parseFieldDescriptor (F_To k).2.2.1 = some (t_To k) := by decide +kernel
abbrev R_AL : String := "java/util/ArrayList"
def F_AL : u_T := fun k => match k with
  | 0 => ("java/util/ArrayList", "elementData", "[Ljava/lang/Object;", false)
  | 1 => ("java/util/ArrayList", "size", "I", false)
  | _ => ("java/util/AbstractList", "modCount", "I", false)
def t_AL : Nat → FieldType := fun k => match k with
  | 0 => .array (.object "java/lang/Object")
  | 1 => .int
  | _ => .int
theorem n_AL : ∀ a, a < 3 → ∀ b, b < 3 → a ≠ b → (F_AL a).2.1 ≠ (F_AL b).2.1 := by decide +kernel
theorem t_AL_ok : ∀ k, k < 3 → parseFieldDescriptor (F_AL k).2.2.1 = some (t_AL k) := by decide +kernel
abbrev R_Mo : String := "HyphenRowsModel"
def F_Mo : u_T := fun k => match k with
  | 0 => ("HyphenRowsModel", "languages", "I", false)
  | 1 => ("HyphenRowsModel", "letters", "[I", true)
  | 2 => ("HyphenRowsModel", "capital", "[Z", true)
  | 3 => ("HyphenRowsModel", "left", "[I", true)
  | 4 => ("HyphenRowsModel", "right", "[I", true)
  | 5 => ("HyphenRowsModel", "whole", "[Z", true)
  | 6 => ("HyphenRowsModel", "making", "I", false)
  | 7 => ("HyphenRowsModel", "row", "[I", true)
  | 8 => ("HyphenRowsModel", "before", "[I", true)
  | 9 => ("HyphenRowsModel", "patterns", "I", false)
  | 10 => ("HyphenRowsModel", "together", "I", false)
  | 11 => ("HyphenRowsModel", "owner", "[I", true)
  | 12 => ("HyphenRowsModel", "size", "[I", true)
  | 13 => ("HyphenRowsModel", "rows", "[I", true)
  | 14 => ("HyphenRowsModel", "digits", "[I", true)
  | 15 => ("HyphenRowsModel", "exceptions", "I", false)
  | 16 => ("HyphenRowsModel", "exceptionOwner", "[I", true)
  | 17 => ("HyphenRowsModel", "exceptionSize", "[I", true)
  | 18 => ("HyphenRowsModel", "exceptionRows", "[I", true)
  | 19 => ("HyphenRowsModel", "exceptionPlaces", "[I", true)
  | 20 => ("HyphenRowsModel", "signs", "I", false)
  | 21 => ("HyphenRowsModel", "word", "[I", true)
  | 22 => ("HyphenRowsModel", "edged", "[I", true)
  | 23 => ("HyphenRowsModel", "places", "I", false)
  | _ => ("HyphenRowsModel", "place", "[I", true)
def t_Mo : Nat → FieldType := fun k => match k with
  | 0 => .int
  | 1 => .array .int
  | 2 => .array .boolean
  | 3 => .array .int
  | 4 => .array .int
  | 5 => .array .boolean
  | 6 => .int
  | 7 => .array .int
  | 8 => .array .int
  | 9 => .int
  | 10 => .int
  | 11 => .array .int
  | 12 => .array .int
  | 13 => .array .int
  | 14 => .array .int
  | 15 => .int
  | 16 => .array .int
  | 17 => .array .int
  | 18 => .array .int
  | 19 => .array .int
  | 20 => .int
  | 21 => .array .int
  | 22 => .array .int
  | 23 => .int
  | _ => .array .int
theorem n_Mo : ∀ a, a < 25 → ∀ b, b < 25 → a ≠ b → (F_Mo a).2.1 ≠ (F_Mo b).2.1 := by decide +kernel
theorem t_Mo_ok : ∀ k, k < 25 → parseFieldDescriptor (F_Mo k).2.2.1 = some (t_Mo k) := by decide +kernel
abbrev ev_cl : List vw_C := [(R_HR, F_HR, 13), (R_La, F_La, 5), (R_Pa, F_Pa, 3), (R_To, F_To, 3), (R_AL, F_AL, 3), (R_Mo, F_Mo, 25)]
abbrev b_HR_init : ByteArray := prog_1_method_1_code
abbrev y_HR_init : MethodName := ⟨"HyphenRows", "<init>", "()V"⟩
abbrev b_Oj_init : ByteArray := object_method_1_code
abbrev y_Oj_init : MethodName := ⟨"java/lang/Object", "<init>", "()V"⟩
abbrev b_AL_init : ByteArray := prog_14_method_2_code
abbrev y_AL_init : MethodName := ⟨"java/util/ArrayList", "<init>", "()V"⟩
abbrev b_Ab_init : ByteArray := prog_13_method_1_code
abbrev y_Ab_init : MethodName := ⟨"java/util/AbstractList", "<init>", "()V"⟩
abbrev b_Ac_init : ByteArray := prog_12_method_1_code
abbrev y_Ac_init : MethodName := ⟨"java/util/AbstractCollection", "<init>", "()V"⟩
abbrev b_HR_language : ByteArray := prog_1_method_2_code
abbrev y_HR_language : MethodName := ⟨"HyphenRows", "language", "()I"⟩
abbrev b_AL_size : ByteArray := prog_14_method_8_code
abbrev y_AL_size : MethodName := ⟨"java/util/ArrayList", "size", "()I"⟩
abbrev b_La_init : ByteArray := prog_2_method_1_code
abbrev y_La_init : MethodName := ⟨"HyphenRows$Language", "<init>", "()V"⟩
abbrev b_AL_add1 : ByteArray := prog_14_method_25_code
abbrev y_AL_add1 : MethodName := ⟨"java/util/ArrayList", "add", "(Ljava/lang/Object;)Z"⟩
abbrev b_AL_add3 : ByteArray := prog_14_method_24_code
abbrev y_AL_add3 : MethodName := ⟨"java/util/ArrayList", "add", "(Ljava/lang/Object;[Ljava/lang/Object;I)V"⟩
abbrev b_AL_grow0 : ByteArray := prog_14_method_7_code
abbrev y_AL_grow0 : MethodName := ⟨"java/util/ArrayList", "grow", "()[Ljava/lang/Object;"⟩
abbrev b_AL_grow1 : ByteArray := prog_14_method_6_code
abbrev y_AL_grow1 : MethodName := ⟨"java/util/ArrayList", "grow", "(I)[Ljava/lang/Object;"⟩
abbrev b_As_newLength : ByteArray := prog_21_method_27_code
abbrev y_As_newLength : MethodName := ⟨"jdk/internal/util/ArraysSupport", "newLength", "(III)I"⟩
abbrev b_Ma_max : ByteArray := prog_10_method_65_code
abbrev y_Ma_max : MethodName := ⟨"java/lang/Math", "max", "(II)I"⟩
abbrev b_As_hugeLength : ByteArray := prog_21_method_28_code
abbrev y_As_hugeLength : MethodName := ⟨"jdk/internal/util/ArraysSupport", "hugeLength", "(II)I"⟩
abbrev b_Ar_copyOf2 : ByteArray := prog_15_method_119_code
abbrev y_Ar_copyOf2 : MethodName := ⟨"java/util/Arrays", "copyOf", "([Ljava/lang/Object;I)[Ljava/lang/Object;"⟩
abbrev b_Ar_copyOf3 : ByteArray := prog_15_method_120_code
abbrev y_Ar_copyOf3 : MethodName := ⟨"java/util/Arrays", "copyOf", "([Ljava/lang/Object;ILjava/lang/Class;)[Ljava/lang/Object;"⟩
abbrev b_Ma_min : ByteArray := prog_10_method_69_code
abbrev y_Ma_min : MethodName := ⟨"java/lang/Math", "min", "(II)I"⟩
abbrev b_HR_code : ByteArray := prog_1_method_3_code
abbrev y_HR_code : MethodName := ⟨"HyphenRows", "code", "(IIIZ)I"⟩
abbrev b_HR_isLanguage : ByteArray := prog_1_method_16_code
abbrev y_HR_isLanguage : MethodName := ⟨"HyphenRows", "isLanguage", "(I)Z"⟩
abbrev b_HR_isSign : ByteArray := prog_1_method_17_code
abbrev y_HR_isSign : MethodName := ⟨"HyphenRows", "isSign", "(I)Z"⟩
abbrev b_HR_isLetterOrZero : ByteArray := prog_1_method_18_code
abbrev y_HR_isLetterOrZero : MethodName := ⟨"HyphenRows", "isLetterOrZero", "(I)Z"⟩
abbrev b_AL_get : ByteArray := prog_14_method_20_code
abbrev y_AL_get : MethodName := ⟨"java/util/ArrayList", "get", "(I)Ljava/lang/Object;"⟩
abbrev b_Ob_checkIndex : ByteArray := prog_18_method_17_code
abbrev y_Ob_checkIndex : MethodName := ⟨"java/util/Objects", "checkIndex", "(II)I"⟩
abbrev b_Pc_checkIndex : ByteArray := prog_22_method_11_code
abbrev y_Pc_checkIndex : MethodName := ⟨"jdk/internal/util/Preconditions", "checkIndex", "(IILjava/util/function/BiFunction;)I"⟩
abbrev b_AL_elementData : ByteArray := prog_14_method_18_code
abbrev y_AL_elementData : MethodName := ⟨"java/util/ArrayList", "elementData", "(I)Ljava/lang/Object;"⟩
abbrev b_HR_ends : ByteArray := prog_1_method_4_code
abbrev y_HR_ends : MethodName := ⟨"HyphenRows", "ends", "(IIIZ)I"⟩
abbrev b_HR_isLeast : ByteArray := prog_1_method_20_code
abbrev y_HR_isLeast : MethodName := ⟨"HyphenRows", "isLeast", "(I)Z"⟩
abbrev b_HR_next : ByteArray := prog_1_method_5_code
abbrev y_HR_next : MethodName := ⟨"HyphenRows", "next", "(II)I"⟩
abbrev b_HR_isDigit : ByteArray := prog_1_method_19_code
abbrev y_HR_isDigit : MethodName := ⟨"HyphenRows", "isDigit", "(I)Z"⟩
abbrev b_HR_pattern : ByteArray := prog_1_method_6_code
abbrev y_HR_pattern : MethodName := ⟨"HyphenRows", "pattern", "(II)I"⟩
abbrev b_HR_isPatternRow : ByteArray := prog_1_method_21_code
abbrev y_HR_isPatternRow : MethodName := ⟨"HyphenRows", "isPatternRow", "(I)Z"⟩
abbrev b_HR_patternWithMadeRow : ByteArray := prog_1_method_22_code
abbrev y_HR_patternWithMadeRow : MethodName := ⟨"HyphenRows", "patternWithMadeRow", "(II)I"⟩
abbrev b_HR_standsAt : ByteArray := prog_1_method_31_code
abbrev y_HR_standsAt : MethodName := ⟨"HyphenRows", "standsAt", "([I[II)Z"⟩
abbrev b_HR_addPattern : ByteArray := prog_1_method_23_code
abbrev y_HR_addPattern : MethodName := ⟨"HyphenRows", "addPattern", "(II)I"⟩
abbrev b_Ar_copyOfI : ByteArray := prog_15_method_123_code
abbrev y_Ar_copyOfI : MethodName := ⟨"java/util/Arrays", "copyOf", "([II)[I"⟩
abbrev b_Pa_init : ByteArray := prog_3_method_1_code
abbrev y_Pa_init : MethodName := ⟨"HyphenRows$Pattern", "<init>", "(I[I[I)V"⟩
abbrev b_HR_sign : ByteArray := prog_1_method_7_code
abbrev y_HR_sign : MethodName := ⟨"HyphenRows", "sign", "(I)I"⟩
abbrev b_HR_clear : ByteArray := prog_1_method_8_code
abbrev y_HR_clear : MethodName := ⟨"HyphenRows", "clear", "()I"⟩
abbrev b_HR_exception : ByteArray := prog_1_method_9_code
abbrev y_HR_exception : MethodName := ⟨"HyphenRows", "exception", "(II)I"⟩
abbrev b_HR_spellWord : ByteArray := prog_1_method_25_code
abbrev y_HR_spellWord : MethodName := ⟨"HyphenRows", "spellWord", "(LHyphenRows$Language;)Z"⟩
abbrev b_HR_exceptionWithWordsLetters : ByteArray := prog_1_method_26_code
abbrev y_HR_exceptionWithWordsLetters : MethodName := ⟨"HyphenRows", "exceptionWithWordsLetters", "(I)I"⟩
abbrev b_Ar_copyOfRange : ByteArray := prog_15_method_136_code
abbrev y_Ar_copyOfRange : MethodName := ⟨"java/util/Arrays", "copyOfRange", "([III)[I"⟩
abbrev b_Ar_copyOfRangeInt : ByteArray := prog_15_method_137_code
abbrev y_Ar_copyOfRangeInt : MethodName := ⟨"java/util/Arrays", "copyOfRangeInt", "([III)[I"⟩
abbrev b_Ar_checkLength : ByteArray := prog_15_method_131_code
abbrev y_Ar_checkLength : MethodName := ⟨"java/util/Arrays", "checkLength", "(II)V"⟩
abbrev b_To_init : ByteArray := prog_4_method_1_code
abbrev y_To_init : MethodName := ⟨"HyphenRows$ToldWord", "<init>", "(I[II)V"⟩
abbrev b_HR_drop : ByteArray := prog_1_method_10_code
abbrev y_HR_drop : MethodName := ⟨"HyphenRows", "drop", "(I)I"⟩
abbrev b_AL_remove : ByteArray := prog_14_method_29_code
abbrev y_AL_remove : MethodName := ⟨"java/util/ArrayList", "remove", "(I)Ljava/lang/Object;"⟩
abbrev b_AL_fastRemove : ByteArray := prog_14_method_39_code
abbrev y_AL_fastRemove : MethodName := ⟨"java/util/ArrayList", "fastRemove", "([Ljava/lang/Object;I)V"⟩
abbrev b_HR_run : ByteArray := prog_1_method_11_code
abbrev y_HR_run : MethodName := ⟨"HyphenRows", "run", "(I)I"⟩
abbrev b_HR_staysWhole : ByteArray := prog_1_method_24_code
abbrev y_HR_staysWhole : MethodName := ⟨"HyphenRows", "staysWhole", "(LHyphenRows$Language;)Z"⟩
abbrev b_HR_findRowDigits : ByteArray := prog_1_method_27_code
abbrev y_HR_findRowDigits : MethodName := ⟨"HyphenRows", "findRowDigits", "(I)V"⟩
abbrev b_Ar_fill : ByteArray := prog_15_method_103_code
abbrev y_Ar_fill : MethodName := ⟨"java/util/Arrays", "fill", "([II)V"⟩
abbrev b_HR_takeToldPlaces : ByteArray := prog_1_method_28_code
abbrev y_HR_takeToldPlaces : MethodName := ⟨"HyphenRows", "takeToldPlaces", "(I)V"⟩
abbrev b_HR_layOverRow : ByteArray := prog_1_method_29_code
abbrev y_HR_layOverRow : MethodName := ⟨"HyphenRows", "layOverRow", "(LHyphenRows$Pattern;)V"⟩
abbrev b_HR_raiseDigits : ByteArray := prog_1_method_30_code
abbrev y_HR_raiseDigits : MethodName := ⟨"HyphenRows", "raiseDigits", "([II)V"⟩
abbrev b_HR_at : ByteArray := prog_1_method_12_code
abbrev y_HR_at : MethodName := ⟨"HyphenRows", "at", "(I)I"⟩
abbrev b_HR_digit : ByteArray := prog_1_method_13_code
abbrev y_HR_digit : MethodName := ⟨"HyphenRows", "digit", "(II)I"⟩
abbrev b_HR_patterns : ByteArray := prog_1_method_14_code
abbrev y_HR_patterns : MethodName := ⟨"HyphenRows", "patterns", "()I"⟩
abbrev b_HR_exceptions : ByteArray := prog_1_method_15_code
abbrev y_HR_exceptions : MethodName := ⟨"HyphenRows", "exceptions", "()I"⟩
abbrev b_Mo_init : ByteArray := prog_6_method_1_code
abbrev y_Mo_init : MethodName := ⟨"HyphenRowsModel", "<init>", "()V"⟩
abbrev b_Mo_language : ByteArray := prog_6_method_4_code
abbrev y_Mo_language : MethodName := ⟨"HyphenRowsModel", "language", "()I"⟩
abbrev b_Mo_code : ByteArray := prog_6_method_5_code
abbrev y_Mo_code : MethodName := ⟨"HyphenRowsModel", "code", "(IIIZ)I"⟩
abbrev b_Mo_isLanguage : ByteArray := prog_6_method_2_code
abbrev y_Mo_isLanguage : MethodName := ⟨"HyphenRowsModel", "isLanguage", "(I)Z"⟩
abbrev b_Mo_in : ByteArray := prog_6_method_3_code
abbrev y_Mo_in : MethodName := ⟨"HyphenRowsModel", "in", "(III)Z"⟩
abbrev b_Mo_ends : ByteArray := prog_6_method_6_code
abbrev y_Mo_ends : MethodName := ⟨"HyphenRowsModel", "ends", "(IIIZ)I"⟩
abbrev b_Mo_next : ByteArray := prog_6_method_7_code
abbrev y_Mo_next : MethodName := ⟨"HyphenRowsModel", "next", "(II)I"⟩
abbrev b_Mo_pattern : ByteArray := prog_6_method_10_code
abbrev y_Mo_pattern : MethodName := ⟨"HyphenRowsModel", "pattern", "(II)I"⟩
abbrev b_Mo_isSame : ByteArray := prog_6_method_9_code
abbrev y_Mo_isSame : MethodName := ⟨"HyphenRowsModel", "isSame", "(II)Z"⟩
abbrev b_Mo_isPattern : ByteArray := prog_6_method_8_code
abbrev y_Mo_isPattern : MethodName := ⟨"HyphenRowsModel", "isPattern", "()Z"⟩
abbrev b_Mo_sign : ByteArray := prog_6_method_11_code
abbrev y_Mo_sign : MethodName := ⟨"HyphenRowsModel", "sign", "(I)I"⟩
abbrev b_Mo_clear : ByteArray := prog_6_method_12_code
abbrev y_Mo_clear : MethodName := ⟨"HyphenRowsModel", "clear", "()I"⟩
abbrev b_Mo_exception : ByteArray := prog_6_method_15_code
abbrev y_Mo_exception : MethodName := ⟨"HyphenRowsModel", "exception", "(II)I"⟩
abbrev b_Mo_spell : ByteArray := prog_6_method_13_code
abbrev y_Mo_spell : MethodName := ⟨"HyphenRowsModel", "spell", "(I)Z"⟩
abbrev b_Mo_exceptionOf : ByteArray := prog_6_method_14_code
abbrev y_Mo_exceptionOf : MethodName := ⟨"HyphenRowsModel", "exceptionOf", "(I)I"⟩
abbrev b_Mo_drop : ByteArray := prog_6_method_16_code
abbrev y_Mo_drop : MethodName := ⟨"HyphenRowsModel", "drop", "(I)I"⟩
abbrev b_Mo_run : ByteArray := prog_6_method_19_code
abbrev y_Mo_run : MethodName := ⟨"HyphenRowsModel", "run", "(I)I"⟩
abbrev b_Mo_digitOf : ByteArray := prog_6_method_18_code
abbrev y_Mo_digitOf : MethodName := ⟨"HyphenRowsModel", "digitOf", "(II)I"⟩
abbrev b_Mo_stands : ByteArray := prog_6_method_17_code
abbrev y_Mo_stands : MethodName := ⟨"HyphenRowsModel", "stands", "(II)Z"⟩
abbrev b_Mo_at : ByteArray := prog_6_method_20_code
abbrev y_Mo_at : MethodName := ⟨"HyphenRowsModel", "at", "(I)I"⟩
abbrev b_Mo_digit : ByteArray := prog_6_method_21_code
abbrev y_Mo_digit : MethodName := ⟨"HyphenRowsModel", "digit", "(II)I"⟩
abbrev b_Mo_patterns : ByteArray := prog_6_method_22_code
abbrev y_Mo_patterns : MethodName := ⟨"HyphenRowsModel", "patterns", "()I"⟩
abbrev b_Mo_exceptions : ByteArray := prog_6_method_23_code
abbrev y_Mo_exceptions : MethodName := ⟨"HyphenRowsModel", "exceptions", "()I"⟩
/-- a word of the tables, by its place -/
theorem k_of {x : Cond} (i : Nat) (h : tables_1[i]? = some x) (hg : goodWord x = true) : x ∈ lw_good := List.mem_filter.mpr ⟨List.mem_append_right _ (List.mem_of_getElem? h), hg⟩
theorem k_sel {x : Cond} (i : Nat) (h : (k2_sels lw_privs)[i]? = some x) (hg : goodWord x = true) : x ∈ lw_good := List.mem_filter.mpr ⟨List.mem_append_left _ (List.mem_of_getElem? h), hg⟩
theorem kz_Lw : (Cond.initialized "HyphenRowsLaw") ∈ lw_good := k_of 0 rfl rfl
theorem kz_HR : (Cond.initialized "HyphenRows") ∈ lw_good := k_of 1 rfl rfl
theorem kz_Ac : (Cond.initialized "java/util/AbstractCollection") ∈ lw_good := k_of 2 rfl rfl
theorem kz_Ab : (Cond.initialized "java/util/AbstractList") ∈ lw_good := k_of 3 rfl rfl
theorem kz_AL : (Cond.initialized "java/util/ArrayList") ∈ lw_good := k_of 4 rfl rfl
theorem kz_Mo : (Cond.initialized "HyphenRowsModel") ∈ lw_good := k_of 5 rfl rfl
theorem kz_La : (Cond.initialized "HyphenRows$Language") ∈ lw_good := k_of 6 rfl rfl
theorem kz_As : (Cond.initialized "jdk/internal/util/ArraysSupport") ∈ lw_good := k_of 7 rfl rfl
theorem kz_Ma : (Cond.initialized "java/lang/Math") ∈ lw_good := k_of 8 rfl rfl
theorem kz_Ar : (Cond.initialized "java/util/Arrays") ∈ lw_good := k_of 9 rfl rfl
theorem kz_Sy : (Cond.initialized "java/lang/System") ∈ lw_good := k_of 10 rfl rfl
theorem kz_Ob : (Cond.initialized "java/util/Objects") ∈ lw_good := k_of 11 rfl rfl
theorem kz_Pc : (Cond.initialized "jdk/internal/util/Preconditions") ∈ lw_good := k_of 12 rfl rfl
theorem kz_Pa : (Cond.initialized "HyphenRows$Pattern") ∈ lw_good := k_of 13 rfl rfl
theorem kz_To : (Cond.initialized "HyphenRows$ToldWord") ∈ lw_good := k_of 14 rfl rfl
theorem k_Lw_7 : (Cond.classLink "HyphenRowsLaw" (7 : Nat) "HyphenRows") ∈ lw_good := k_of 15 rfl rfl
theorem kt_HR : (Cond.instantiable "HyphenRows" (13 : Nat)) ∈ lw_good := k_of 16 rfl rfl
theorem k_Lw_9 : (Cond.methodLink "HyphenRowsLaw" (9 : Nat) ({ cls := "HyphenRows", name := "<init>", desc := "()V" } : MethodName)) ∈ lw_good := k_of 17 rfl rfl
theorem ki_HR_init : (Cond.instanceMethod ({ cls := "HyphenRows", name := "<init>", desc := "()V" } : MethodName)) ∈ lw_good := k_of 18 rfl rfl
theorem kc_HR_init : Cond.code y_HR_init b_HR_init 1 (Option.none : Option FieldType) ∈ lw_good := k_of 19 rfl rfl
theorem k_HR_1 : (Cond.methodLink "HyphenRows" (1 : Nat) ({ cls := "java/lang/Object", name := "<init>", desc := "()V" } : MethodName)) ∈ lw_good := k_of 20 rfl rfl
theorem ki_Oj_init : (Cond.instanceMethod ({ cls := "java/lang/Object", name := "<init>", desc := "()V" } : MethodName)) ∈ lw_good := k_of 21 rfl rfl
theorem kc_Oj_init : Cond.code y_Oj_init b_Oj_init 1 (Option.none : Option FieldType) ∈ lw_good := k_of 22 rfl rfl
theorem k_HR_7 : (Cond.classLink "HyphenRows" (7 : Nat) "java/util/ArrayList") ∈ lw_good := k_of 23 rfl rfl
theorem kt_AL : (Cond.instantiable "java/util/ArrayList" (3 : Nat)) ∈ lw_good := k_of 24 rfl rfl
theorem k_HR_9 : (Cond.methodLink "HyphenRows" (9 : Nat) ({ cls := "java/util/ArrayList", name := "<init>", desc := "()V" } : MethodName)) ∈ lw_good := k_of 25 rfl rfl
theorem ki_AL_init : (Cond.instanceMethod ({ cls := "java/util/ArrayList", name := "<init>", desc := "()V" } : MethodName)) ∈ lw_good := k_of 26 rfl rfl
theorem kc_AL_init : Cond.code y_AL_init b_AL_init 1 (Option.none : Option FieldType) ∈ lw_good := k_of 27 rfl rfl
theorem k_AL_1 : (Cond.methodLink "java/util/ArrayList" (1 : Nat) ({ cls := "java/util/AbstractList", name := "<init>", desc := "()V" } : MethodName)) ∈ lw_good := k_of 28 rfl rfl
theorem ki_Ab_init : (Cond.instanceMethod ({ cls := "java/util/AbstractList", name := "<init>", desc := "()V" } : MethodName)) ∈ lw_good := k_of 29 rfl rfl
theorem kc_Ab_init : Cond.code y_Ab_init b_Ab_init 1 (Option.none : Option FieldType) ∈ lw_good := k_of 30 rfl rfl
theorem k_Ab_1 : (Cond.methodLink "java/util/AbstractList" (1 : Nat) ({ cls := "java/util/AbstractCollection", name := "<init>", desc := "()V" } : MethodName)) ∈ lw_good := k_of 31 rfl rfl
theorem ki_Ac_init : (Cond.instanceMethod ({ cls := "java/util/AbstractCollection", name := "<init>", desc := "()V" } : MethodName)) ∈ lw_good := k_of 32 rfl rfl
theorem kc_Ac_init : Cond.code y_Ac_init b_Ac_init 1 (Option.none : Option FieldType) ∈ lw_good := k_of 33 rfl rfl
theorem k_Ac_1 : (Cond.methodLink "java/util/AbstractCollection" (1 : Nat) ({ cls := "java/lang/Object", name := "<init>", desc := "()V" } : MethodName)) ∈ lw_good := k_of 34 rfl rfl
theorem k_AL_39 : (Cond.fieldLink "java/util/ArrayList" (39 : Nat) "java/util/ArrayList" "DEFAULTCAPACITY_EMPTY_ELEMENTDATA" "[Ljava/lang/Object;") ∈ lw_good := k_of 35 rfl rfl
theorem k_AL_9 : (Cond.fieldLink "java/util/ArrayList" (9 : Nat) "java/util/ArrayList" "elementData" "[Ljava/lang/Object;") ∈ lw_good := k_of 37 rfl rfl
theorem k_AL_48 : (Cond.fieldLink "java/util/ArrayList" (48 : Nat) "java/util/ArrayList" "size" "I") ∈ lw_good := k_of 38 rfl rfl
theorem k_Ab_7 : (Cond.fieldLink "java/util/AbstractList" (7 : Nat) "java/util/AbstractList" "modCount" "I") ∈ lw_good := k_of 39 rfl rfl
theorem k_AL_63 : (Cond.fieldLink "java/util/ArrayList" (63 : Nat) "java/util/ArrayList" "modCount" "I") ∈ lw_good := k_of 40 rfl rfl
theorem km_AL_modCount : (Cond.sameField "java/util/ArrayList" "java/util/AbstractList" "modCount" "I") ∈ lw_good := k_of 41 rfl rfl
theorem k_HR_10 : (Cond.fieldLink "HyphenRows" (10 : Nat) "HyphenRows" "languages" "Ljava/util/ArrayList;") ∈ lw_good := k_of 49 rfl rfl
theorem k_HR_16 : (Cond.fieldLink "HyphenRows" (16 : Nat) "HyphenRows" "patterns" "Ljava/util/ArrayList;") ∈ lw_good := k_of 50 rfl rfl
theorem k_HR_19 : (Cond.fieldLink "HyphenRows" (19 : Nat) "HyphenRows" "exceptions" "Ljava/util/ArrayList;") ∈ lw_good := k_of 51 rfl rfl
theorem k_HR_22 : (Cond.fieldLink "HyphenRows" (22 : Nat) "HyphenRows" "patternLetters" "I") ∈ lw_good := k_of 52 rfl rfl
theorem k_HR_26 : (Cond.fieldLink "HyphenRows" (26 : Nat) "HyphenRows" "madeLetters" "[I") ∈ lw_good := k_of 53 rfl rfl
theorem k_HR_30 : (Cond.fieldLink "HyphenRows" (30 : Nat) "HyphenRows" "madeDigits" "[I") ∈ lw_good := k_of 54 rfl rfl
theorem k_HR_33 : (Cond.fieldLink "HyphenRows" (33 : Nat) "HyphenRows" "made" "I") ∈ lw_good := k_of 55 rfl rfl
theorem k_HR_36 : (Cond.fieldLink "HyphenRows" (36 : Nat) "HyphenRows" "word" "[I") ∈ lw_good := k_of 56 rfl rfl
theorem k_HR_39 : (Cond.fieldLink "HyphenRows" (39 : Nat) "HyphenRows" "length" "I") ∈ lw_good := k_of 57 rfl rfl
theorem k_HR_42 : (Cond.fieldLink "HyphenRows" (42 : Nat) "HyphenRows" "row" "[I") ∈ lw_good := k_of 58 rfl rfl
theorem k_HR_45 : (Cond.fieldLink "HyphenRows" (45 : Nat) "HyphenRows" "rowDigits" "[I") ∈ lw_good := k_of 59 rfl rfl
theorem k_HR_48 : (Cond.fieldLink "HyphenRows" (48 : Nat) "HyphenRows" "runPlaces" "[I") ∈ lw_good := k_of 60 rfl rfl
theorem k_HR_51 : (Cond.fieldLink "HyphenRows" (51 : Nat) "HyphenRows" "runPlaceCount" "I") ∈ lw_good := k_of 61 rfl rfl
theorem ka_int : (Cond.arrayClass FieldType.int) ∈ lw_good := k_of 89 rfl rfl
theorem k_Lw_13 : (Cond.methodLink "HyphenRowsLaw" (13 : Nat) ({ cls := "HyphenRows", name := "language", desc := "()I" } : MethodName)) ∈ lw_good := k_of 90 rfl rfl
theorem ki_HR_language : (Cond.instanceMethod ({ cls := "HyphenRows", name := "language", desc := "()I" } : MethodName)) ∈ lw_good := k_of 91 rfl rfl
theorem kv_HR_language : (Cond.selects "HyphenRows" ({ cls := "HyphenRows", name := "language", desc := "()I" } : MethodName) ({ cls := "HyphenRows", name := "language", desc := "()I" } : MethodName)) ∈ lw_good := k_of 92 rfl rfl
theorem kc_HR_language : Cond.code y_HR_language b_HR_language 1 (Option.some FieldType.int) ∈ lw_good := k_of 93 rfl rfl
theorem k_HR_54 : (Cond.methodLink "HyphenRows" (54 : Nat) ({ cls := "java/util/ArrayList", name := "size", desc := "()I" } : MethodName)) ∈ lw_good := k_of 94 rfl rfl
theorem ki_AL_size : (Cond.instanceMethod ({ cls := "java/util/ArrayList", name := "size", desc := "()I" } : MethodName)) ∈ lw_good := k_of 95 rfl rfl
theorem kv_AL_size : (Cond.selects "java/util/ArrayList" ({ cls := "java/util/ArrayList", name := "size", desc := "()I" } : MethodName) ({ cls := "java/util/ArrayList", name := "size", desc := "()I" } : MethodName)) ∈ lw_good := k_of 96 rfl rfl
theorem kc_AL_size : Cond.code y_AL_size b_AL_size 1 (Option.some FieldType.int) ∈ lw_good := k_of 97 rfl rfl
theorem k_HR_58 : (Cond.classLink "HyphenRows" (58 : Nat) "HyphenRows$Language") ∈ lw_good := k_of 98 rfl rfl
theorem kt_La : (Cond.instantiable "HyphenRows$Language" (5 : Nat)) ∈ lw_good := k_of 99 rfl rfl
theorem ki_La_init : (Cond.instanceMethod ({ cls := "HyphenRows$Language", name := "<init>", desc := "()V" } : MethodName)) ∈ lw_good := k_of 101 rfl rfl
theorem kc_La_init : Cond.code y_La_init b_La_init 1 (Option.none : Option FieldType) ∈ lw_good := k_of 102 rfl rfl
theorem k_La_3 : (Cond.methodLink "HyphenRows$Language" (3 : Nat) ({ cls := "java/lang/Object", name := "<init>", desc := "()V" } : MethodName)) ∈ lw_good := k_of 103 rfl rfl
theorem k_La_9 : (Cond.fieldLink "HyphenRows$Language" (9 : Nat) "HyphenRows$Language" "letterOf" "[I") ∈ lw_good := k_of 104 rfl rfl
theorem k_HR_79 : (Cond.fieldLink "HyphenRows" (79 : Nat) "HyphenRows$Language" "letterOf" "[I") ∈ lw_good := k_of 105 rfl rfl
theorem k_La_15 : (Cond.fieldLink "HyphenRows$Language" (15 : Nat) "HyphenRows$Language" "isCapital" "[Z") ∈ lw_good := k_of 106 rfl rfl
theorem k_HR_82 : (Cond.fieldLink "HyphenRows" (82 : Nat) "HyphenRows$Language" "isCapital" "[Z") ∈ lw_good := k_of 107 rfl rfl
theorem k_La_19 : (Cond.fieldLink "HyphenRows$Language" (19 : Nat) "HyphenRows$Language" "leastLeft" "I") ∈ lw_good := k_of 108 rfl rfl
theorem k_HR_89 : (Cond.fieldLink "HyphenRows" (89 : Nat) "HyphenRows$Language" "leastLeft" "I") ∈ lw_good := k_of 109 rfl rfl
theorem k_La_23 : (Cond.fieldLink "HyphenRows$Language" (23 : Nat) "HyphenRows$Language" "leastRight" "I") ∈ lw_good := k_of 110 rfl rfl
theorem k_HR_92 : (Cond.fieldLink "HyphenRows" (92 : Nat) "HyphenRows$Language" "leastRight" "I") ∈ lw_good := k_of 111 rfl rfl
theorem k_La_26 : (Cond.fieldLink "HyphenRows$Language" (26 : Nat) "HyphenRows$Language" "capitalsWhole" "Z") ∈ lw_good := k_of 112 rfl rfl
theorem k_HR_95 : (Cond.fieldLink "HyphenRows" (95 : Nat) "HyphenRows$Language" "capitalsWhole" "Z") ∈ lw_good := k_of 113 rfl rfl
theorem ka_boolean : (Cond.arrayClass FieldType.boolean) ∈ lw_good := k_of 125 rfl rfl
theorem k_HR_61 : (Cond.methodLink "HyphenRows" (61 : Nat) ({ cls := "java/util/ArrayList", name := "add", desc := "(Ljava/lang/Object;)Z" } : MethodName)) ∈ lw_good := k_of 126 rfl rfl
theorem ki_AL_add1 : (Cond.instanceMethod ({ cls := "java/util/ArrayList", name := "add", desc := "(Ljava/lang/Object;)Z" } : MethodName)) ∈ lw_good := k_of 127 rfl rfl
theorem kv_AL_add1 : (Cond.selects "java/util/ArrayList" ({ cls := "java/util/ArrayList", name := "add", desc := "(Ljava/lang/Object;)Z" } : MethodName) ({ cls := "java/util/ArrayList", name := "add", desc := "(Ljava/lang/Object;)Z" } : MethodName)) ∈ lw_good := k_of 128 rfl rfl
theorem kc_AL_add1 : Cond.code y_AL_add1 b_AL_add1 2 (Option.some FieldType.boolean) ∈ lw_good := k_of 129 rfl rfl
theorem k_AL_131 : (Cond.methodLink "java/util/ArrayList" (131 : Nat) ({ cls := "java/util/ArrayList", name := "add", desc := "(Ljava/lang/Object;[Ljava/lang/Object;I)V" } : MethodName)) ∈ lw_good := k_of 130 rfl rfl
theorem ki_AL_add3 : (Cond.instanceMethod ({ cls := "java/util/ArrayList", name := "add", desc := "(Ljava/lang/Object;[Ljava/lang/Object;I)V" } : MethodName)) ∈ lw_good := k_of 132 rfl rfl
theorem kc_AL_add3 : Cond.code y_AL_add3 b_AL_add3 4 (Option.none : Option FieldType) ∈ lw_good := k_of 133 rfl rfl
theorem k_AL_129 : (Cond.methodLink "java/util/ArrayList" (129 : Nat) ({ cls := "java/util/ArrayList", name := "grow", desc := "()[Ljava/lang/Object;" } : MethodName)) ∈ lw_good := k_of 134 rfl rfl
theorem ki_AL_grow0 : (Cond.instanceMethod ({ cls := "java/util/ArrayList", name := "grow", desc := "()[Ljava/lang/Object;" } : MethodName)) ∈ lw_good := k_of 136 rfl rfl
theorem kc_AL_grow0 : Cond.code y_AL_grow0 b_AL_grow0 1 (Option.some (FieldType.array (FieldType.object "java/lang/Object"))) ∈ lw_good := k_of 137 rfl rfl
theorem k_AL_69 : (Cond.methodLink "java/util/ArrayList" (69 : Nat) ({ cls := "java/util/ArrayList", name := "grow", desc := "(I)[Ljava/lang/Object;" } : MethodName)) ∈ lw_good := k_of 138 rfl rfl
theorem ki_AL_grow1 : (Cond.instanceMethod ({ cls := "java/util/ArrayList", name := "grow", desc := "(I)[Ljava/lang/Object;" } : MethodName)) ∈ lw_good := k_of 140 rfl rfl
theorem kc_AL_grow1 : Cond.code y_AL_grow1 b_AL_grow1 4 (Option.some (FieldType.array (FieldType.object "java/lang/Object"))) ∈ lw_good := k_of 141 rfl rfl
theorem k_AL_73 : (Cond.methodLink "java/util/ArrayList" (73 : Nat) ({ cls := "jdk/internal/util/ArraysSupport", name := "newLength", desc := "(III)I" } : MethodName)) ∈ lw_good := k_of 142 rfl rfl
theorem ks_As_newLength : (Cond.static ({ cls := "jdk/internal/util/ArraysSupport", name := "newLength", desc := "(III)I" } : MethodName)) ∈ lw_good := k_of 143 rfl rfl
theorem kc_As_newLength : Cond.code y_As_newLength b_As_newLength 4 (Option.some FieldType.int) ∈ lw_good := k_of 144 rfl rfl
theorem k_As_194 : (Cond.methodLink "jdk/internal/util/ArraysSupport" (194 : Nat) ({ cls := "java/lang/Math", name := "max", desc := "(II)I" } : MethodName)) ∈ lw_good := k_of 145 rfl rfl
theorem ks_Ma_max : (Cond.static ({ cls := "java/lang/Math", name := "max", desc := "(II)I" } : MethodName)) ∈ lw_good := k_of 146 rfl rfl
theorem kc_Ma_max : Cond.code y_Ma_max b_Ma_max 2 (Option.some FieldType.int) ∈ lw_good := k_of 147 rfl rfl
theorem kk_As_200 : (Cond.constant "jdk/internal/util/ArraysSupport" (200 : Nat) (2147483639 : Int32)) ∈ lw_good := k_of 148 rfl rfl
theorem k_As_201 : (Cond.methodLink "jdk/internal/util/ArraysSupport" (201 : Nat) ({ cls := "jdk/internal/util/ArraysSupport", name := "hugeLength", desc := "(II)I" } : MethodName)) ∈ lw_good := k_of 149 rfl rfl
theorem ks_As_hugeLength : (Cond.static ({ cls := "jdk/internal/util/ArraysSupport", name := "hugeLength", desc := "(II)I" } : MethodName)) ∈ lw_good := k_of 150 rfl rfl
theorem kc_As_hugeLength : Cond.code y_As_hugeLength b_As_hugeLength 3 (Option.some FieldType.int) ∈ lw_good := k_of 151 rfl rfl
theorem k_AL_66 : (Cond.methodLink "java/util/ArrayList" (66 : Nat) ({ cls := "java/util/Arrays", name := "copyOf", desc := "([Ljava/lang/Object;I)[Ljava/lang/Object;" } : MethodName)) ∈ lw_good := k_of 152 rfl rfl
theorem ks_Ar_copyOf2 : (Cond.static ({ cls := "java/util/Arrays", name := "copyOf", desc := "([Ljava/lang/Object;I)[Ljava/lang/Object;" } : MethodName)) ∈ lw_good := k_of 153 rfl rfl
theorem kc_Ar_copyOf2 : Cond.code y_Ar_copyOf2 b_Ar_copyOf2 2 (Option.some (FieldType.array (FieldType.object "java/lang/Object"))) ∈ lw_good := k_of 154 rfl rfl
theorem k_Ar_86 : (Cond.methodLink "java/util/Arrays" (86 : Nat) ({ cls := "java/lang/Object", name := "getClass", desc := "()Ljava/lang/Class;" } : MethodName)) ∈ lw_good := k_of 155 rfl rfl
theorem ki_Oj_getClass : (Cond.instanceMethod ({ cls := "java/lang/Object", name := "getClass", desc := "()Ljava/lang/Class;" } : MethodName)) ∈ lw_good := k_of 156 rfl rfl
theorem km_Oj_getClass : (Cond.sameMethod "java/lang/Object" "java/lang/Object" "getClass" "()Ljava/lang/Class;") ∈ lw_good := k_of 157 rfl rfl
theorem kv_HR_Oj_getClass : (Cond.selects "HyphenRows" ({ cls := "java/lang/Object", name := "getClass", desc := "()Ljava/lang/Class;" } : MethodName) ({ cls := "java/lang/Object", name := "getClass", desc := "()Ljava/lang/Class;" } : MethodName)) ∈ lw_good := k_of 158 rfl rfl
theorem kv_La_Oj_getClass : (Cond.selects "HyphenRows$Language" ({ cls := "java/lang/Object", name := "getClass", desc := "()Ljava/lang/Class;" } : MethodName) ({ cls := "java/lang/Object", name := "getClass", desc := "()Ljava/lang/Class;" } : MethodName)) ∈ lw_good := k_of 159 rfl rfl
theorem kv_Pa_Oj_getClass : (Cond.selects "HyphenRows$Pattern" ({ cls := "java/lang/Object", name := "getClass", desc := "()Ljava/lang/Class;" } : MethodName) ({ cls := "java/lang/Object", name := "getClass", desc := "()Ljava/lang/Class;" } : MethodName)) ∈ lw_good := k_of 160 rfl rfl
theorem kv_To_Oj_getClass : (Cond.selects "HyphenRows$ToldWord" ({ cls := "java/lang/Object", name := "getClass", desc := "()Ljava/lang/Class;" } : MethodName) ({ cls := "java/lang/Object", name := "getClass", desc := "()Ljava/lang/Class;" } : MethodName)) ∈ lw_good := k_of 161 rfl rfl
theorem kv_Mo_Oj_getClass : (Cond.selects "HyphenRowsModel" ({ cls := "java/lang/Object", name := "getClass", desc := "()Ljava/lang/Class;" } : MethodName) ({ cls := "java/lang/Object", name := "getClass", desc := "()Ljava/lang/Class;" } : MethodName)) ∈ lw_good := k_of 162 rfl rfl
theorem kv_AL_Oj_getClass : (Cond.selects "java/util/ArrayList" ({ cls := "java/lang/Object", name := "getClass", desc := "()Ljava/lang/Class;" } : MethodName) ({ cls := "java/lang/Object", name := "getClass", desc := "()Ljava/lang/Class;" } : MethodName)) ∈ lw_good := k_of 163 rfl rfl
theorem kn_Oj_getClass : (Cond.native ({ cls := "java/lang/Object", name := "getClass", desc := "()Ljava/lang/Class;" } : MethodName)) ∈ lw_good := k_of 164 rfl rfl
theorem k_Ar_300 : (Cond.methodLink "java/util/Arrays" (300 : Nat) ({ cls := "java/util/Arrays", name := "copyOf", desc := "([Ljava/lang/Object;ILjava/lang/Class;)[Ljava/lang/Object;" } : MethodName)) ∈ lw_good := k_of 165 rfl rfl
theorem ks_Ar_copyOf3 : (Cond.static ({ cls := "java/util/Arrays", name := "copyOf", desc := "([Ljava/lang/Object;ILjava/lang/Class;)[Ljava/lang/Object;" } : MethodName)) ∈ lw_good := k_of 166 rfl rfl
theorem kc_Ar_copyOf3 : Cond.code y_Ar_copyOf3 b_Ar_copyOf3 4 (Option.some (FieldType.array (FieldType.object "java/lang/Object"))) ∈ lw_good := k_of 167 rfl rfl
theorem k_Ar_110 : (Cond.classLink "java/util/Arrays" (110 : Nat) "[Ljava/lang/Object;") ∈ lw_good := k_of 168 rfl rfl
theorem k_Ar_2 : (Cond.classLink "java/util/Arrays" (2 : Nat) "java/lang/Object") ∈ lw_good := k_of 170 rfl rfl
theorem k_Ar_304 : (Cond.methodLink "java/util/Arrays" (304 : Nat) ({ cls := "java/lang/Math", name := "min", desc := "(II)I" } : MethodName)) ∈ lw_good := k_of 171 rfl rfl
theorem ks_Ma_min : (Cond.static ({ cls := "java/lang/Math", name := "min", desc := "(II)I" } : MethodName)) ∈ lw_good := k_of 172 rfl rfl
theorem kc_Ma_min : Cond.code y_Ma_min b_Ma_min 2 (Option.some FieldType.int) ∈ lw_good := k_of 173 rfl rfl
theorem k_Ar_150 : (Cond.methodLink "java/util/Arrays" (150 : Nat) ({ cls := "java/lang/System", name := "arraycopy", desc := "(Ljava/lang/Object;ILjava/lang/Object;II)V" } : MethodName)) ∈ lw_good := k_of 174 rfl rfl
theorem ks_Sy_arraycopy : (Cond.static ({ cls := "java/lang/System", name := "arraycopy", desc := "(Ljava/lang/Object;ILjava/lang/Object;II)V" } : MethodName)) ∈ lw_good := k_of 175 rfl rfl
theorem kn_Sy_arraycopy : (Cond.native ({ cls := "java/lang/System", name := "arraycopy", desc := "(Ljava/lang/Object;ILjava/lang/Object;II)V" } : MethodName)) ∈ lw_good := k_of 176 rfl rfl
theorem k_AL_79 : (Cond.methodLink "java/util/ArrayList" (79 : Nat) ({ cls := "java/lang/Math", name := "max", desc := "(II)I" } : MethodName)) ∈ lw_good := k_of 177 rfl rfl
theorem k_AL_7 : (Cond.classLink "java/util/ArrayList" (7 : Nat) "java/lang/Object") ∈ lw_good := k_of 178 rfl rfl
theorem k_Lw_18 : (Cond.methodLink "HyphenRowsLaw" (18 : Nat) ({ cls := "HyphenRows", name := "code", desc := "(IIIZ)I" } : MethodName)) ∈ lw_good := k_of 179 rfl rfl
theorem ki_HR_code : (Cond.instanceMethod ({ cls := "HyphenRows", name := "code", desc := "(IIIZ)I" } : MethodName)) ∈ lw_good := k_of 180 rfl rfl
theorem kv_HR_code : (Cond.selects "HyphenRows" ({ cls := "HyphenRows", name := "code", desc := "(IIIZ)I" } : MethodName) ({ cls := "HyphenRows", name := "code", desc := "(IIIZ)I" } : MethodName)) ∈ lw_good := k_of 181 rfl rfl
theorem kc_HR_code : Cond.code y_HR_code b_HR_code 6 (Option.some FieldType.int) ∈ lw_good := k_of 182 rfl rfl
theorem k_HR_65 : (Cond.methodLink "HyphenRows" (65 : Nat) ({ cls := "HyphenRows", name := "isLanguage", desc := "(I)Z" } : MethodName)) ∈ lw_good := k_of 183 rfl rfl
theorem ki_HR_isLanguage : (Cond.instanceMethod ({ cls := "HyphenRows", name := "isLanguage", desc := "(I)Z" } : MethodName)) ∈ lw_good := k_of 185 rfl rfl
theorem kc_HR_isLanguage : Cond.code y_HR_isLanguage b_HR_isLanguage 2 (Option.some FieldType.boolean) ∈ lw_good := k_of 186 rfl rfl
theorem k_HR_69 : (Cond.methodLink "HyphenRows" (69 : Nat) ({ cls := "HyphenRows", name := "isSign", desc := "(I)Z" } : MethodName)) ∈ lw_good := k_of 187 rfl rfl
theorem ks_HR_isSign : (Cond.static ({ cls := "HyphenRows", name := "isSign", desc := "(I)Z" } : MethodName)) ∈ lw_good := k_of 188 rfl rfl
theorem kc_HR_isSign : Cond.code y_HR_isSign b_HR_isSign 1 (Option.some FieldType.boolean) ∈ lw_good := k_of 189 rfl rfl
theorem k_HR_72 : (Cond.methodLink "HyphenRows" (72 : Nat) ({ cls := "HyphenRows", name := "isLetterOrZero", desc := "(I)Z" } : MethodName)) ∈ lw_good := k_of 190 rfl rfl
theorem ks_HR_isLetterOrZero : (Cond.static ({ cls := "HyphenRows", name := "isLetterOrZero", desc := "(I)Z" } : MethodName)) ∈ lw_good := k_of 191 rfl rfl
theorem kc_HR_isLetterOrZero : Cond.code y_HR_isLetterOrZero b_HR_isLetterOrZero 1 (Option.some FieldType.boolean) ∈ lw_good := k_of 192 rfl rfl
theorem k_HR_75 : (Cond.methodLink "HyphenRows" (75 : Nat) ({ cls := "java/util/ArrayList", name := "get", desc := "(I)Ljava/lang/Object;" } : MethodName)) ∈ lw_good := k_of 193 rfl rfl
theorem ki_AL_get : (Cond.instanceMethod ({ cls := "java/util/ArrayList", name := "get", desc := "(I)Ljava/lang/Object;" } : MethodName)) ∈ lw_good := k_of 194 rfl rfl
theorem kv_AL_get : (Cond.selects "java/util/ArrayList" ({ cls := "java/util/ArrayList", name := "get", desc := "(I)Ljava/lang/Object;" } : MethodName) ({ cls := "java/util/ArrayList", name := "get", desc := "(I)Ljava/lang/Object;" } : MethodName)) ∈ lw_good := k_of 195 rfl rfl
theorem kc_AL_get : Cond.code y_AL_get b_AL_get 2 (Option.some (FieldType.object "java/lang/Object")) ∈ lw_good := k_of 196 rfl rfl
theorem k_AL_118 : (Cond.methodLink "java/util/ArrayList" (118 : Nat) ({ cls := "java/util/Objects", name := "checkIndex", desc := "(II)I" } : MethodName)) ∈ lw_good := k_of 197 rfl rfl
theorem ks_Ob_checkIndex : (Cond.static ({ cls := "java/util/Objects", name := "checkIndex", desc := "(II)I" } : MethodName)) ∈ lw_good := k_of 198 rfl rfl
theorem kc_Ob_checkIndex : Cond.code y_Ob_checkIndex b_Ob_checkIndex 2 (Option.some FieldType.int) ∈ lw_good := k_of 199 rfl rfl
theorem k_Ob_105 : (Cond.methodLink "java/util/Objects" (105 : Nat) ({ cls := "jdk/internal/util/Preconditions", name := "checkIndex", desc := "(IILjava/util/function/BiFunction;)I" } : MethodName)) ∈ lw_good := k_of 200 rfl rfl
theorem ks_Pc_checkIndex : (Cond.static ({ cls := "jdk/internal/util/Preconditions", name := "checkIndex", desc := "(IILjava/util/function/BiFunction;)I" } : MethodName)) ∈ lw_good := k_of 201 rfl rfl
theorem kc_Pc_checkIndex : Cond.code y_Pc_checkIndex b_Pc_checkIndex 3 (Option.some FieldType.int) ∈ lw_good := k_of 202 rfl rfl
theorem k_AL_123 : (Cond.methodLink "java/util/ArrayList" (123 : Nat) ({ cls := "java/util/ArrayList", name := "elementData", desc := "(I)Ljava/lang/Object;" } : MethodName)) ∈ lw_good := k_of 203 rfl rfl
theorem ki_AL_elementData : (Cond.instanceMethod ({ cls := "java/util/ArrayList", name := "elementData", desc := "(I)Ljava/lang/Object;" } : MethodName)) ∈ lw_good := k_of 204 rfl rfl
theorem kv_AL_elementData : (Cond.selects "java/util/ArrayList" ({ cls := "java/util/ArrayList", name := "elementData", desc := "(I)Ljava/lang/Object;" } : MethodName) ({ cls := "java/util/ArrayList", name := "elementData", desc := "(I)Ljava/lang/Object;" } : MethodName)) ∈ lw_good := k_of 205 rfl rfl
theorem kc_AL_elementData : Cond.code y_AL_elementData b_AL_elementData 2 (Option.some (FieldType.object "java/lang/Object")) ∈ lw_good := k_of 206 rfl rfl
theorem k_Lw_23 : (Cond.methodLink "HyphenRowsLaw" (23 : Nat) ({ cls := "HyphenRows", name := "ends", desc := "(IIIZ)I" } : MethodName)) ∈ lw_good := k_of 207 rfl rfl
theorem ki_HR_ends : (Cond.instanceMethod ({ cls := "HyphenRows", name := "ends", desc := "(IIIZ)I" } : MethodName)) ∈ lw_good := k_of 208 rfl rfl
theorem kv_HR_ends : (Cond.selects "HyphenRows" ({ cls := "HyphenRows", name := "ends", desc := "(IIIZ)I" } : MethodName) ({ cls := "HyphenRows", name := "ends", desc := "(IIIZ)I" } : MethodName)) ∈ lw_good := k_of 209 rfl rfl
theorem kc_HR_ends : Cond.code y_HR_ends b_HR_ends 6 (Option.some FieldType.int) ∈ lw_good := k_of 210 rfl rfl
theorem k_HR_86 : (Cond.methodLink "HyphenRows" (86 : Nat) ({ cls := "HyphenRows", name := "isLeast", desc := "(I)Z" } : MethodName)) ∈ lw_good := k_of 211 rfl rfl
theorem ks_HR_isLeast : (Cond.static ({ cls := "HyphenRows", name := "isLeast", desc := "(I)Z" } : MethodName)) ∈ lw_good := k_of 212 rfl rfl
theorem kc_HR_isLeast : Cond.code y_HR_isLeast b_HR_isLeast 1 (Option.some FieldType.boolean) ∈ lw_good := k_of 213 rfl rfl
theorem k_Lw_27 : (Cond.methodLink "HyphenRowsLaw" (27 : Nat) ({ cls := "HyphenRows", name := "next", desc := "(II)I" } : MethodName)) ∈ lw_good := k_of 214 rfl rfl
theorem ki_HR_next : (Cond.instanceMethod ({ cls := "HyphenRows", name := "next", desc := "(II)I" } : MethodName)) ∈ lw_good := k_of 215 rfl rfl
theorem kv_HR_next : (Cond.selects "HyphenRows" ({ cls := "HyphenRows", name := "next", desc := "(II)I" } : MethodName) ({ cls := "HyphenRows", name := "next", desc := "(II)I" } : MethodName)) ∈ lw_good := k_of 216 rfl rfl
theorem kc_HR_next : Cond.code y_HR_next b_HR_next 3 (Option.some FieldType.int) ∈ lw_good := k_of 217 rfl rfl
theorem k_HR_99 : (Cond.methodLink "HyphenRows" (99 : Nat) ({ cls := "HyphenRows", name := "isDigit", desc := "(I)Z" } : MethodName)) ∈ lw_good := k_of 218 rfl rfl
theorem ks_HR_isDigit : (Cond.static ({ cls := "HyphenRows", name := "isDigit", desc := "(I)Z" } : MethodName)) ∈ lw_good := k_of 219 rfl rfl
theorem kc_HR_isDigit : Cond.code y_HR_isDigit b_HR_isDigit 1 (Option.some FieldType.boolean) ∈ lw_good := k_of 220 rfl rfl
theorem k_Lw_32 : (Cond.methodLink "HyphenRowsLaw" (32 : Nat) ({ cls := "HyphenRows", name := "pattern", desc := "(II)I" } : MethodName)) ∈ lw_good := k_of 221 rfl rfl
theorem ki_HR_pattern : (Cond.instanceMethod ({ cls := "HyphenRows", name := "pattern", desc := "(II)I" } : MethodName)) ∈ lw_good := k_of 222 rfl rfl
theorem kv_HR_pattern : (Cond.selects "HyphenRows" ({ cls := "HyphenRows", name := "pattern", desc := "(II)I" } : MethodName) ({ cls := "HyphenRows", name := "pattern", desc := "(II)I" } : MethodName)) ∈ lw_good := k_of 223 rfl rfl
theorem kc_HR_pattern : Cond.code y_HR_pattern b_HR_pattern 5 (Option.some FieldType.int) ∈ lw_good := k_of 224 rfl rfl
theorem k_HR_102 : (Cond.methodLink "HyphenRows" (102 : Nat) ({ cls := "HyphenRows", name := "isPatternRow", desc := "(I)Z" } : MethodName)) ∈ lw_good := k_of 225 rfl rfl
theorem ki_HR_isPatternRow : (Cond.instanceMethod ({ cls := "HyphenRows", name := "isPatternRow", desc := "(I)Z" } : MethodName)) ∈ lw_good := k_of 227 rfl rfl
theorem kc_HR_isPatternRow : Cond.code y_HR_isPatternRow b_HR_isPatternRow 4 (Option.some FieldType.boolean) ∈ lw_good := k_of 228 rfl rfl
theorem k_HR_105 : (Cond.methodLink "HyphenRows" (105 : Nat) ({ cls := "HyphenRows", name := "patternWithMadeRow", desc := "(II)I" } : MethodName)) ∈ lw_good := k_of 229 rfl rfl
theorem ki_HR_patternWithMadeRow : (Cond.instanceMethod ({ cls := "HyphenRows", name := "patternWithMadeRow", desc := "(II)I" } : MethodName)) ∈ lw_good := k_of 231 rfl rfl
theorem kc_HR_patternWithMadeRow : Cond.code y_HR_patternWithMadeRow b_HR_patternWithMadeRow 5 (Option.some FieldType.int) ∈ lw_good := k_of 232 rfl rfl
theorem k_HR_109 : (Cond.classLink "HyphenRows" (109 : Nat) "HyphenRows$Pattern") ∈ lw_good := k_of 233 rfl rfl
theorem k_HR_161 : (Cond.methodLink "HyphenRows" (161 : Nat) ({ cls := "HyphenRows", name := "standsAt", desc := "([I[II)Z" } : MethodName)) ∈ lw_good := k_of 234 rfl rfl
theorem ks_HR_standsAt : (Cond.static ({ cls := "HyphenRows", name := "standsAt", desc := "([I[II)Z" } : MethodName)) ∈ lw_good := k_of 235 rfl rfl
theorem kc_HR_standsAt : Cond.code y_HR_standsAt b_HR_standsAt 4 (Option.some FieldType.boolean) ∈ lw_good := k_of 236 rfl rfl
theorem k_HR_114 : (Cond.methodLink "HyphenRows" (114 : Nat) ({ cls := "java/lang/System", name := "arraycopy", desc := "(Ljava/lang/Object;ILjava/lang/Object;II)V" } : MethodName)) ∈ lw_good := k_of 237 rfl rfl
theorem k_HR_120 : (Cond.methodLink "HyphenRows" (120 : Nat) ({ cls := "HyphenRows", name := "addPattern", desc := "(II)I" } : MethodName)) ∈ lw_good := k_of 238 rfl rfl
theorem ki_HR_addPattern : (Cond.instanceMethod ({ cls := "HyphenRows", name := "addPattern", desc := "(II)I" } : MethodName)) ∈ lw_good := k_of 240 rfl rfl
theorem kc_HR_addPattern : Cond.code y_HR_addPattern b_HR_addPattern 5 (Option.some FieldType.int) ∈ lw_good := k_of 241 rfl rfl
theorem k_HR_165 : (Cond.methodLink "HyphenRows" (165 : Nat) ({ cls := "java/util/Arrays", name := "copyOf", desc := "([II)[I" } : MethodName)) ∈ lw_good := k_of 242 rfl rfl
theorem ks_Ar_copyOfI : (Cond.static ({ cls := "java/util/Arrays", name := "copyOf", desc := "([II)[I" } : MethodName)) ∈ lw_good := k_of 243 rfl rfl
theorem kc_Ar_copyOfI : Cond.code y_Ar_copyOfI b_Ar_copyOfI 3 (Option.some (FieldType.array FieldType.int)) ∈ lw_good := k_of 244 rfl rfl
theorem k_Ar_316 : (Cond.methodLink "java/util/Arrays" (316 : Nat) ({ cls := "[I", name := "clone", desc := "()Ljava/lang/Object;" } : MethodName)) ∈ lw_good := k_of 245 rfl rfl
theorem km_Ia_clone : (Cond.sameMethod "[I" "java/lang/Object" "clone" "()Ljava/lang/Object;") ∈ lw_good := k_of 246 rfl rfl
theorem kn_Oj_clone : (Cond.native ({ cls := "java/lang/Object", name := "clone", desc := "()Ljava/lang/Object;" } : MethodName)) ∈ lw_good := k_of 247 rfl rfl
theorem ki_Oj_clone : (Cond.instanceMethod ({ cls := "java/lang/Object", name := "clone", desc := "()Ljava/lang/Object;" } : MethodName)) ∈ lw_good := k_of 248 rfl rfl
theorem kv_Ia_clone : (Cond.selects "[I" ({ cls := "[I", name := "clone", desc := "()Ljava/lang/Object;" } : MethodName) ({ cls := "java/lang/Object", name := "clone", desc := "()Ljava/lang/Object;" } : MethodName)) ∈ lw_good := k_of 249 rfl rfl
theorem k_Ar_317 : (Cond.classLink "java/util/Arrays" (317 : Nat) "[I") ∈ lw_good := k_of 251 rfl rfl
theorem kt_Pa : (Cond.instantiable "HyphenRows$Pattern" (3 : Nat)) ∈ lw_good := k_of 252 rfl rfl
theorem k_HR_169 : (Cond.methodLink "HyphenRows" (169 : Nat) ({ cls := "HyphenRows$Pattern", name := "<init>", desc := "(I[I[I)V" } : MethodName)) ∈ lw_good := k_of 253 rfl rfl
theorem ki_Pa_init : (Cond.instanceMethod ({ cls := "HyphenRows$Pattern", name := "<init>", desc := "(I[I[I)V" } : MethodName)) ∈ lw_good := k_of 254 rfl rfl
theorem kc_Pa_init : Cond.code y_Pa_init b_Pa_init 4 (Option.none : Option FieldType) ∈ lw_good := k_of 255 rfl rfl
theorem k_Pa_1 : (Cond.methodLink "HyphenRows$Pattern" (1 : Nat) ({ cls := "java/lang/Object", name := "<init>", desc := "()V" } : MethodName)) ∈ lw_good := k_of 256 rfl rfl
theorem k_Pa_7 : (Cond.fieldLink "HyphenRows$Pattern" (7 : Nat) "HyphenRows$Pattern" "language" "I") ∈ lw_good := k_of 257 rfl rfl
theorem k_HR_155 : (Cond.fieldLink "HyphenRows" (155 : Nat) "HyphenRows$Pattern" "language" "I") ∈ lw_good := k_of 258 rfl rfl
theorem k_Pa_13 : (Cond.fieldLink "HyphenRows$Pattern" (13 : Nat) "HyphenRows$Pattern" "letters" "[I") ∈ lw_good := k_of 259 rfl rfl
theorem k_HR_158 : (Cond.fieldLink "HyphenRows" (158 : Nat) "HyphenRows$Pattern" "letters" "[I") ∈ lw_good := k_of 260 rfl rfl
theorem k_Pa_17 : (Cond.fieldLink "HyphenRows$Pattern" (17 : Nat) "HyphenRows$Pattern" "digits" "[I") ∈ lw_good := k_of 261 rfl rfl
theorem k_HR_111 : (Cond.fieldLink "HyphenRows" (111 : Nat) "HyphenRows$Pattern" "digits" "[I") ∈ lw_good := k_of 262 rfl rfl
theorem k_Lw_36 : (Cond.methodLink "HyphenRowsLaw" (36 : Nat) ({ cls := "HyphenRows", name := "sign", desc := "(I)I" } : MethodName)) ∈ lw_good := k_of 270 rfl rfl
theorem ki_HR_sign : (Cond.instanceMethod ({ cls := "HyphenRows", name := "sign", desc := "(I)I" } : MethodName)) ∈ lw_good := k_of 271 rfl rfl
theorem kv_HR_sign : (Cond.selects "HyphenRows" ({ cls := "HyphenRows", name := "sign", desc := "(I)I" } : MethodName) ({ cls := "HyphenRows", name := "sign", desc := "(I)I" } : MethodName)) ∈ lw_good := k_of 272 rfl rfl
theorem kc_HR_sign : Cond.code y_HR_sign b_HR_sign 2 (Option.some FieldType.int) ∈ lw_good := k_of 273 rfl rfl
theorem k_Lw_41 : (Cond.methodLink "HyphenRowsLaw" (41 : Nat) ({ cls := "HyphenRows", name := "clear", desc := "()I" } : MethodName)) ∈ lw_good := k_of 274 rfl rfl
theorem ki_HR_clear : (Cond.instanceMethod ({ cls := "HyphenRows", name := "clear", desc := "()I" } : MethodName)) ∈ lw_good := k_of 275 rfl rfl
theorem kv_HR_clear : (Cond.selects "HyphenRows" ({ cls := "HyphenRows", name := "clear", desc := "()I" } : MethodName) ({ cls := "HyphenRows", name := "clear", desc := "()I" } : MethodName)) ∈ lw_good := k_of 276 rfl rfl
theorem kc_HR_clear : Cond.code y_HR_clear b_HR_clear 2 (Option.some FieldType.int) ∈ lw_good := k_of 277 rfl rfl
theorem k_Lw_45 : (Cond.methodLink "HyphenRowsLaw" (45 : Nat) ({ cls := "HyphenRows", name := "exception", desc := "(II)I" } : MethodName)) ∈ lw_good := k_of 278 rfl rfl
theorem ki_HR_exception : (Cond.instanceMethod ({ cls := "HyphenRows", name := "exception", desc := "(II)I" } : MethodName)) ∈ lw_good := k_of 279 rfl rfl
theorem kv_HR_exception : (Cond.selects "HyphenRows" ({ cls := "HyphenRows", name := "exception", desc := "(II)I" } : MethodName) ({ cls := "HyphenRows", name := "exception", desc := "(II)I" } : MethodName)) ∈ lw_good := k_of 280 rfl rfl
theorem kc_HR_exception : Cond.code y_HR_exception b_HR_exception 4 (Option.some FieldType.int) ∈ lw_good := k_of 281 rfl rfl
theorem k_HR_123 : (Cond.methodLink "HyphenRows" (123 : Nat) ({ cls := "HyphenRows", name := "spellWord", desc := "(LHyphenRows$Language;)Z" } : MethodName)) ∈ lw_good := k_of 282 rfl rfl
theorem ki_HR_spellWord : (Cond.instanceMethod ({ cls := "HyphenRows", name := "spellWord", desc := "(LHyphenRows$Language;)Z" } : MethodName)) ∈ lw_good := k_of 284 rfl rfl
theorem kc_HR_spellWord : Cond.code y_HR_spellWord b_HR_spellWord 4 (Option.some FieldType.boolean) ∈ lw_good := k_of 285 rfl rfl
theorem k_HR_127 : (Cond.methodLink "HyphenRows" (127 : Nat) ({ cls := "HyphenRows", name := "exceptionWithWordsLetters", desc := "(I)I" } : MethodName)) ∈ lw_good := k_of 286 rfl rfl
theorem ki_HR_exceptionWithWordsLetters : (Cond.instanceMethod ({ cls := "HyphenRows", name := "exceptionWithWordsLetters", desc := "(I)I" } : MethodName)) ∈ lw_good := k_of 288 rfl rfl
theorem kc_HR_exceptionWithWordsLetters : Cond.code y_HR_exceptionWithWordsLetters b_HR_exceptionWithWordsLetters 4 (Option.some FieldType.int) ∈ lw_good := k_of 289 rfl rfl
theorem k_HR_131 : (Cond.classLink "HyphenRows" (131 : Nat) "HyphenRows$ToldWord") ∈ lw_good := k_of 290 rfl rfl
theorem kt_To : (Cond.instantiable "HyphenRows$ToldWord" (3 : Nat)) ∈ lw_good := k_of 291 rfl rfl
theorem k_HR_136 : (Cond.methodLink "HyphenRows" (136 : Nat) ({ cls := "java/util/Arrays", name := "copyOfRange", desc := "([III)[I" } : MethodName)) ∈ lw_good := k_of 292 rfl rfl
theorem ks_Ar_copyOfRange : (Cond.static ({ cls := "java/util/Arrays", name := "copyOfRange", desc := "([III)[I" } : MethodName)) ∈ lw_good := k_of 293 rfl rfl
theorem kc_Ar_copyOfRange : Cond.code y_Ar_copyOfRange b_Ar_copyOfRange 3 (Option.some (FieldType.array FieldType.int)) ∈ lw_good := k_of 294 rfl rfl
theorem k_Ar_351 : (Cond.methodLink "java/util/Arrays" (351 : Nat) ({ cls := "java/util/Arrays", name := "copyOfRangeInt", desc := "([III)[I" } : MethodName)) ∈ lw_good := k_of 295 rfl rfl
theorem ks_Ar_copyOfRangeInt : (Cond.static ({ cls := "java/util/Arrays", name := "copyOfRangeInt", desc := "([III)[I" } : MethodName)) ∈ lw_good := k_of 296 rfl rfl
theorem kc_Ar_copyOfRangeInt : Cond.code y_Ar_copyOfRangeInt b_Ar_copyOfRangeInt 5 (Option.some (FieldType.array FieldType.int)) ∈ lw_good := k_of 297 rfl rfl
theorem k_Ar_343 : (Cond.methodLink "java/util/Arrays" (343 : Nat) ({ cls := "java/util/Arrays", name := "checkLength", desc := "(II)V" } : MethodName)) ∈ lw_good := k_of 298 rfl rfl
theorem ks_Ar_checkLength : (Cond.static ({ cls := "java/util/Arrays", name := "checkLength", desc := "(II)V" } : MethodName)) ∈ lw_good := k_of 299 rfl rfl
set_option maxRecDepth 20000 in
theorem kc_Ar_checkLength : Cond.code y_Ar_checkLength b_Ar_checkLength 2 (Option.none : Option FieldType) ∈ lw_good := k_of 300 rfl rfl
set_option maxRecDepth 20000 in
theorem k_HR_142 : (Cond.methodLink "HyphenRows" (142 : Nat) ({ cls := "HyphenRows$ToldWord", name := "<init>", desc := "(I[II)V" } : MethodName)) ∈ lw_good := k_of 301 rfl rfl
set_option maxRecDepth 20000 in
theorem ki_To_init : (Cond.instanceMethod ({ cls := "HyphenRows$ToldWord", name := "<init>", desc := "(I[II)V" } : MethodName)) ∈ lw_good := k_of 302 rfl rfl
set_option maxRecDepth 20000 in
theorem kc_To_init : Cond.code y_To_init b_To_init 4 (Option.none : Option FieldType) ∈ lw_good := k_of 303 rfl rfl
set_option maxRecDepth 20000 in
theorem k_To_1 : (Cond.methodLink "HyphenRows$ToldWord" (1 : Nat) ({ cls := "java/lang/Object", name := "<init>", desc := "()V" } : MethodName)) ∈ lw_good := k_of 304 rfl rfl
set_option maxRecDepth 20000 in
theorem k_To_7 : (Cond.fieldLink "HyphenRows$ToldWord" (7 : Nat) "HyphenRows$ToldWord" "language" "I") ∈ lw_good := k_of 305 rfl rfl
set_option maxRecDepth 20000 in
theorem k_HR_172 : (Cond.fieldLink "HyphenRows" (172 : Nat) "HyphenRows$ToldWord" "language" "I") ∈ lw_good := k_of 306 rfl rfl
set_option maxRecDepth 20000 in
theorem k_To_13 : (Cond.fieldLink "HyphenRows$ToldWord" (13 : Nat) "HyphenRows$ToldWord" "letters" "[I") ∈ lw_good := k_of 307 rfl rfl
set_option maxRecDepth 20000 in
theorem k_HR_173 : (Cond.fieldLink "HyphenRows" (173 : Nat) "HyphenRows$ToldWord" "letters" "[I") ∈ lw_good := k_of 308 rfl rfl
set_option maxRecDepth 20000 in
theorem k_To_17 : (Cond.fieldLink "HyphenRows$ToldWord" (17 : Nat) "HyphenRows$ToldWord" "places" "I") ∈ lw_good := k_of 309 rfl rfl
set_option maxRecDepth 20000 in
theorem k_HR_133 : (Cond.fieldLink "HyphenRows" (133 : Nat) "HyphenRows$ToldWord" "places" "I") ∈ lw_good := k_of 310 rfl rfl
set_option maxRecDepth 20000 in
theorem k_Lw_49 : (Cond.methodLink "HyphenRowsLaw" (49 : Nat) ({ cls := "HyphenRows", name := "drop", desc := "(I)I" } : MethodName)) ∈ lw_good := k_of 318 rfl rfl
set_option maxRecDepth 20000 in
theorem ki_HR_drop : (Cond.instanceMethod ({ cls := "HyphenRows", name := "drop", desc := "(I)I" } : MethodName)) ∈ lw_good := k_of 319 rfl rfl
set_option maxRecDepth 20000 in
theorem kv_HR_drop : (Cond.selects "HyphenRows" ({ cls := "HyphenRows", name := "drop", desc := "(I)I" } : MethodName) ({ cls := "HyphenRows", name := "drop", desc := "(I)I" } : MethodName)) ∈ lw_good := k_of 320 rfl rfl
set_option maxRecDepth 20000 in
theorem kc_HR_drop : Cond.code y_HR_drop b_HR_drop 2 (Option.some FieldType.int) ∈ lw_good := k_of 321 rfl rfl
set_option maxRecDepth 20000 in
theorem k_HR_145 : (Cond.methodLink "HyphenRows" (145 : Nat) ({ cls := "java/util/ArrayList", name := "remove", desc := "(I)Ljava/lang/Object;" } : MethodName)) ∈ lw_good := k_of 322 rfl rfl
set_option maxRecDepth 20000 in
theorem ki_AL_remove : (Cond.instanceMethod ({ cls := "java/util/ArrayList", name := "remove", desc := "(I)Ljava/lang/Object;" } : MethodName)) ∈ lw_good := k_of 323 rfl rfl
set_option maxRecDepth 20000 in
theorem kv_AL_remove : (Cond.selects "java/util/ArrayList" ({ cls := "java/util/ArrayList", name := "remove", desc := "(I)Ljava/lang/Object;" } : MethodName) ({ cls := "java/util/ArrayList", name := "remove", desc := "(I)Ljava/lang/Object;" } : MethodName)) ∈ lw_good := k_of 324 rfl rfl
set_option maxRecDepth 20000 in
theorem kc_AL_remove : Cond.code y_AL_remove b_AL_remove 4 (Option.some (FieldType.object "java/lang/Object")) ∈ lw_good := k_of 325 rfl rfl
set_option maxRecDepth 20000 in
theorem k_AL_144 : (Cond.methodLink "java/util/ArrayList" (144 : Nat) ({ cls := "java/util/ArrayList", name := "fastRemove", desc := "([Ljava/lang/Object;I)V" } : MethodName)) ∈ lw_good := k_of 326 rfl rfl
set_option maxRecDepth 20000 in
theorem ki_AL_fastRemove : (Cond.instanceMethod ({ cls := "java/util/ArrayList", name := "fastRemove", desc := "([Ljava/lang/Object;I)V" } : MethodName)) ∈ lw_good := k_of 328 rfl rfl
set_option maxRecDepth 20000 in
theorem kc_AL_fastRemove : Cond.code y_AL_fastRemove b_AL_fastRemove 4 (Option.none : Option FieldType) ∈ lw_good := k_of 329 rfl rfl
set_option maxRecDepth 20000 in
theorem k_AL_112 : (Cond.methodLink "java/util/ArrayList" (112 : Nat) ({ cls := "java/lang/System", name := "arraycopy", desc := "(Ljava/lang/Object;ILjava/lang/Object;II)V" } : MethodName)) ∈ lw_good := k_of 330 rfl rfl
set_option maxRecDepth 20000 in
theorem k_Lw_53 : (Cond.methodLink "HyphenRowsLaw" (53 : Nat) ({ cls := "HyphenRows", name := "run", desc := "(I)I" } : MethodName)) ∈ lw_good := k_of 331 rfl rfl
set_option maxRecDepth 20000 in
theorem ki_HR_run : (Cond.instanceMethod ({ cls := "HyphenRows", name := "run", desc := "(I)I" } : MethodName)) ∈ lw_good := k_of 332 rfl rfl
set_option maxRecDepth 20000 in
theorem kv_HR_run : (Cond.selects "HyphenRows" ({ cls := "HyphenRows", name := "run", desc := "(I)I" } : MethodName) ({ cls := "HyphenRows", name := "run", desc := "(I)I" } : MethodName)) ∈ lw_good := k_of 333 rfl rfl
set_option maxRecDepth 20000 in
theorem kc_HR_run : Cond.code y_HR_run b_HR_run 5 (Option.some FieldType.int) ∈ lw_good := k_of 334 rfl rfl
set_option maxRecDepth 20000 in
theorem k_HR_148 : (Cond.methodLink "HyphenRows" (148 : Nat) ({ cls := "HyphenRows", name := "staysWhole", desc := "(LHyphenRows$Language;)Z" } : MethodName)) ∈ lw_good := k_of 335 rfl rfl
set_option maxRecDepth 20000 in
theorem ki_HR_staysWhole : (Cond.instanceMethod ({ cls := "HyphenRows", name := "staysWhole", desc := "(LHyphenRows$Language;)Z" } : MethodName)) ∈ lw_good := k_of 337 rfl rfl
set_option maxRecDepth 20000 in
theorem kc_HR_staysWhole : Cond.code y_HR_staysWhole b_HR_staysWhole 2 (Option.some FieldType.boolean) ∈ lw_good := k_of 338 rfl rfl
set_option maxRecDepth 20000 in
theorem k_HR_151 : (Cond.methodLink "HyphenRows" (151 : Nat) ({ cls := "HyphenRows", name := "findRowDigits", desc := "(I)V" } : MethodName)) ∈ lw_good := k_of 339 rfl rfl
set_option maxRecDepth 20000 in
theorem ki_HR_findRowDigits : (Cond.instanceMethod ({ cls := "HyphenRows", name := "findRowDigits", desc := "(I)V" } : MethodName)) ∈ lw_good := k_of 341 rfl rfl
set_option maxRecDepth 20000 in
theorem kc_HR_findRowDigits : Cond.code y_HR_findRowDigits b_HR_findRowDigits 5 (Option.none : Option FieldType) ∈ lw_good := k_of 342 rfl rfl
set_option maxRecDepth 20000 in
theorem k_HR_174 : (Cond.methodLink "HyphenRows" (174 : Nat) ({ cls := "java/util/Arrays", name := "fill", desc := "([II)V" } : MethodName)) ∈ lw_good := k_of 343 rfl rfl
set_option maxRecDepth 20000 in
theorem ks_Ar_fill : (Cond.static ({ cls := "java/util/Arrays", name := "fill", desc := "([II)V" } : MethodName)) ∈ lw_good := k_of 344 rfl rfl
set_option maxRecDepth 20000 in
theorem kc_Ar_fill : Cond.code y_Ar_fill b_Ar_fill 4 (Option.none : Option FieldType) ∈ lw_good := k_of 345 rfl rfl
set_option maxRecDepth 20000 in
theorem k_HR_178 : (Cond.methodLink "HyphenRows" (178 : Nat) ({ cls := "HyphenRows", name := "takeToldPlaces", desc := "(I)V" } : MethodName)) ∈ lw_good := k_of 346 rfl rfl
set_option maxRecDepth 20000 in
theorem ki_HR_takeToldPlaces : (Cond.instanceMethod ({ cls := "HyphenRows", name := "takeToldPlaces", desc := "(I)V" } : MethodName)) ∈ lw_good := k_of 348 rfl rfl
set_option maxRecDepth 20000 in
theorem kc_HR_takeToldPlaces : Cond.code y_HR_takeToldPlaces b_HR_takeToldPlaces 3 (Option.none : Option FieldType) ∈ lw_good := k_of 349 rfl rfl
set_option maxRecDepth 20000 in
theorem k_HR_181 : (Cond.methodLink "HyphenRows" (181 : Nat) ({ cls := "HyphenRows", name := "layOverRow", desc := "(LHyphenRows$Pattern;)V" } : MethodName)) ∈ lw_good := k_of 350 rfl rfl
set_option maxRecDepth 20000 in
theorem ki_HR_layOverRow : (Cond.instanceMethod ({ cls := "HyphenRows", name := "layOverRow", desc := "(LHyphenRows$Pattern;)V" } : MethodName)) ∈ lw_good := k_of 352 rfl rfl
set_option maxRecDepth 20000 in
theorem kc_HR_layOverRow : Cond.code y_HR_layOverRow b_HR_layOverRow 4 (Option.none : Option FieldType) ∈ lw_good := k_of 353 rfl rfl
set_option maxRecDepth 20000 in
theorem k_HR_185 : (Cond.methodLink "HyphenRows" (185 : Nat) ({ cls := "HyphenRows", name := "raiseDigits", desc := "([II)V" } : MethodName)) ∈ lw_good := k_of 354 rfl rfl
set_option maxRecDepth 20000 in
theorem ki_HR_raiseDigits : (Cond.instanceMethod ({ cls := "HyphenRows", name := "raiseDigits", desc := "([II)V" } : MethodName)) ∈ lw_good := k_of 356 rfl rfl
set_option maxRecDepth 20000 in
theorem kc_HR_raiseDigits : Cond.code y_HR_raiseDigits b_HR_raiseDigits 4 (Option.none : Option FieldType) ∈ lw_good := k_of 357 rfl rfl
set_option maxRecDepth 20000 in
theorem k_HR_188 : (Cond.methodLink "HyphenRows" (188 : Nat) ({ cls := "java/lang/Math", name := "max", desc := "(II)I" } : MethodName)) ∈ lw_good := k_of 358 rfl rfl
set_option maxRecDepth 20000 in
theorem k_Lw_57 : (Cond.methodLink "HyphenRowsLaw" (57 : Nat) ({ cls := "HyphenRows", name := "at", desc := "(I)I" } : MethodName)) ∈ lw_good := k_of 359 rfl rfl
set_option maxRecDepth 20000 in
theorem ki_HR_at : (Cond.instanceMethod ({ cls := "HyphenRows", name := "at", desc := "(I)I" } : MethodName)) ∈ lw_good := k_of 360 rfl rfl
set_option maxRecDepth 20000 in
theorem kv_HR_at : (Cond.selects "HyphenRows" ({ cls := "HyphenRows", name := "at", desc := "(I)I" } : MethodName) ({ cls := "HyphenRows", name := "at", desc := "(I)I" } : MethodName)) ∈ lw_good := k_of 361 rfl rfl
set_option maxRecDepth 20000 in
theorem kc_HR_at : Cond.code y_HR_at b_HR_at 2 (Option.some FieldType.int) ∈ lw_good := k_of 362 rfl rfl
set_option maxRecDepth 20000 in
theorem k_Lw_61 : (Cond.methodLink "HyphenRowsLaw" (61 : Nat) ({ cls := "HyphenRows", name := "digit", desc := "(II)I" } : MethodName)) ∈ lw_good := k_of 363 rfl rfl
set_option maxRecDepth 20000 in
theorem ki_HR_digit : (Cond.instanceMethod ({ cls := "HyphenRows", name := "digit", desc := "(II)I" } : MethodName)) ∈ lw_good := k_of 364 rfl rfl
set_option maxRecDepth 20000 in
theorem kv_HR_digit : (Cond.selects "HyphenRows" ({ cls := "HyphenRows", name := "digit", desc := "(II)I" } : MethodName) ({ cls := "HyphenRows", name := "digit", desc := "(II)I" } : MethodName)) ∈ lw_good := k_of 365 rfl rfl
set_option maxRecDepth 20000 in
theorem kc_HR_digit : Cond.code y_HR_digit b_HR_digit 3 (Option.some FieldType.int) ∈ lw_good := k_of 366 rfl rfl
set_option maxRecDepth 20000 in
theorem k_Lw_65 : (Cond.methodLink "HyphenRowsLaw" (65 : Nat) ({ cls := "HyphenRows", name := "patterns", desc := "()I" } : MethodName)) ∈ lw_good := k_of 367 rfl rfl
set_option maxRecDepth 20000 in
theorem ki_HR_patterns : (Cond.instanceMethod ({ cls := "HyphenRows", name := "patterns", desc := "()I" } : MethodName)) ∈ lw_good := k_of 368 rfl rfl
set_option maxRecDepth 20000 in
theorem kv_HR_patterns : (Cond.selects "HyphenRows" ({ cls := "HyphenRows", name := "patterns", desc := "()I" } : MethodName) ({ cls := "HyphenRows", name := "patterns", desc := "()I" } : MethodName)) ∈ lw_good := k_of 369 rfl rfl
set_option maxRecDepth 20000 in
theorem kc_HR_patterns : Cond.code y_HR_patterns b_HR_patterns 1 (Option.some FieldType.int) ∈ lw_good := k_of 370 rfl rfl
set_option maxRecDepth 20000 in
theorem k_Lw_69 : (Cond.methodLink "HyphenRowsLaw" (69 : Nat) ({ cls := "HyphenRows", name := "exceptions", desc := "()I" } : MethodName)) ∈ lw_good := k_of 371 rfl rfl
set_option maxRecDepth 20000 in
theorem ki_HR_exceptions : (Cond.instanceMethod ({ cls := "HyphenRows", name := "exceptions", desc := "()I" } : MethodName)) ∈ lw_good := k_of 372 rfl rfl
set_option maxRecDepth 20000 in
theorem kv_HR_exceptions : (Cond.selects "HyphenRows" ({ cls := "HyphenRows", name := "exceptions", desc := "()I" } : MethodName) ({ cls := "HyphenRows", name := "exceptions", desc := "()I" } : MethodName)) ∈ lw_good := k_of 373 rfl rfl
set_option maxRecDepth 20000 in
theorem kc_HR_exceptions : Cond.code y_HR_exceptions b_HR_exceptions 1 (Option.some FieldType.int) ∈ lw_good := k_of 374 rfl rfl
set_option maxRecDepth 20000 in
theorem k_Lw_10 : (Cond.classLink "HyphenRowsLaw" (10 : Nat) "HyphenRowsModel") ∈ lw_good := k_of 375 rfl rfl
set_option maxRecDepth 20000 in
theorem kt_Mo : (Cond.instantiable "HyphenRowsModel" (25 : Nat)) ∈ lw_good := k_of 376 rfl rfl
set_option maxRecDepth 20000 in
theorem k_Lw_12 : (Cond.methodLink "HyphenRowsLaw" (12 : Nat) ({ cls := "HyphenRowsModel", name := "<init>", desc := "()V" } : MethodName)) ∈ lw_good := k_of 377 rfl rfl
set_option maxRecDepth 20000 in
theorem ki_Mo_init : (Cond.instanceMethod ({ cls := "HyphenRowsModel", name := "<init>", desc := "()V" } : MethodName)) ∈ lw_good := k_of 378 rfl rfl
set_option maxRecDepth 20000 in
theorem kc_Mo_init : Cond.code y_Mo_init b_Mo_init 1 (Option.none : Option FieldType) ∈ lw_good := k_of 379 rfl rfl
set_option maxRecDepth 20000 in
theorem k_Mo_1 : (Cond.methodLink "HyphenRowsModel" (1 : Nat) ({ cls := "java/lang/Object", name := "<init>", desc := "()V" } : MethodName)) ∈ lw_good := k_of 380 rfl rfl
set_option maxRecDepth 20000 in
theorem k_Mo_65 : (Cond.fieldLink "HyphenRowsModel" (65 : Nat) "HyphenRowsModel" "languages" "I") ∈ lw_good := k_of 381 rfl rfl
set_option maxRecDepth 20000 in
theorem k_Mo_7 : (Cond.fieldLink "HyphenRowsModel" (7 : Nat) "HyphenRowsModel" "letters" "[I") ∈ lw_good := k_of 382 rfl rfl
set_option maxRecDepth 20000 in
theorem k_Mo_13 : (Cond.fieldLink "HyphenRowsModel" (13 : Nat) "HyphenRowsModel" "capital" "[Z") ∈ lw_good := k_of 383 rfl rfl
set_option maxRecDepth 20000 in
theorem k_Mo_17 : (Cond.fieldLink "HyphenRowsModel" (17 : Nat) "HyphenRowsModel" "left" "[I") ∈ lw_good := k_of 384 rfl rfl
set_option maxRecDepth 20000 in
theorem k_Mo_20 : (Cond.fieldLink "HyphenRowsModel" (20 : Nat) "HyphenRowsModel" "right" "[I") ∈ lw_good := k_of 385 rfl rfl
set_option maxRecDepth 20000 in
theorem k_Mo_23 : (Cond.fieldLink "HyphenRowsModel" (23 : Nat) "HyphenRowsModel" "whole" "[Z") ∈ lw_good := k_of 386 rfl rfl
set_option maxRecDepth 20000 in
theorem k_Mo_77 : (Cond.fieldLink "HyphenRowsModel" (77 : Nat) "HyphenRowsModel" "making" "I") ∈ lw_good := k_of 387 rfl rfl
set_option maxRecDepth 20000 in
theorem k_Mo_26 : (Cond.fieldLink "HyphenRowsModel" (26 : Nat) "HyphenRowsModel" "row" "[I") ∈ lw_good := k_of 388 rfl rfl
set_option maxRecDepth 20000 in
theorem k_Mo_29 : (Cond.fieldLink "HyphenRowsModel" (29 : Nat) "HyphenRowsModel" "before" "[I") ∈ lw_good := k_of 389 rfl rfl
set_option maxRecDepth 20000 in
theorem k_Mo_80 : (Cond.fieldLink "HyphenRowsModel" (80 : Nat) "HyphenRowsModel" "patterns" "I") ∈ lw_good := k_of 390 rfl rfl
set_option maxRecDepth 20000 in
theorem k_Mo_91 : (Cond.fieldLink "HyphenRowsModel" (91 : Nat) "HyphenRowsModel" "together" "I") ∈ lw_good := k_of 391 rfl rfl
set_option maxRecDepth 20000 in
theorem k_Mo_32 : (Cond.fieldLink "HyphenRowsModel" (32 : Nat) "HyphenRowsModel" "owner" "[I") ∈ lw_good := k_of 392 rfl rfl
set_option maxRecDepth 20000 in
theorem k_Mo_35 : (Cond.fieldLink "HyphenRowsModel" (35 : Nat) "HyphenRowsModel" "size" "[I") ∈ lw_good := k_of 393 rfl rfl
set_option maxRecDepth 20000 in
theorem k_Mo_38 : (Cond.fieldLink "HyphenRowsModel" (38 : Nat) "HyphenRowsModel" "rows" "[I") ∈ lw_good := k_of 394 rfl rfl
set_option maxRecDepth 20000 in
theorem k_Mo_41 : (Cond.fieldLink "HyphenRowsModel" (41 : Nat) "HyphenRowsModel" "digits" "[I") ∈ lw_good := k_of 395 rfl rfl
set_option maxRecDepth 20000 in
theorem k_Mo_97 : (Cond.fieldLink "HyphenRowsModel" (97 : Nat) "HyphenRowsModel" "exceptions" "I") ∈ lw_good := k_of 396 rfl rfl
set_option maxRecDepth 20000 in
theorem k_Mo_44 : (Cond.fieldLink "HyphenRowsModel" (44 : Nat) "HyphenRowsModel" "exceptionOwner" "[I") ∈ lw_good := k_of 397 rfl rfl
set_option maxRecDepth 20000 in
theorem k_Mo_47 : (Cond.fieldLink "HyphenRowsModel" (47 : Nat) "HyphenRowsModel" "exceptionSize" "[I") ∈ lw_good := k_of 398 rfl rfl
set_option maxRecDepth 20000 in
theorem k_Mo_50 : (Cond.fieldLink "HyphenRowsModel" (50 : Nat) "HyphenRowsModel" "exceptionRows" "[I") ∈ lw_good := k_of 399 rfl rfl
set_option maxRecDepth 20000 in
theorem k_Mo_53 : (Cond.fieldLink "HyphenRowsModel" (53 : Nat) "HyphenRowsModel" "exceptionPlaces" "[I") ∈ lw_good := k_of 400 rfl rfl
set_option maxRecDepth 20000 in
theorem k_Mo_94 : (Cond.fieldLink "HyphenRowsModel" (94 : Nat) "HyphenRowsModel" "signs" "I") ∈ lw_good := k_of 401 rfl rfl
set_option maxRecDepth 20000 in
theorem k_Mo_56 : (Cond.fieldLink "HyphenRowsModel" (56 : Nat) "HyphenRowsModel" "word" "[I") ∈ lw_good := k_of 402 rfl rfl
set_option maxRecDepth 20000 in
theorem k_Mo_59 : (Cond.fieldLink "HyphenRowsModel" (59 : Nat) "HyphenRowsModel" "edged" "[I") ∈ lw_good := k_of 403 rfl rfl
set_option maxRecDepth 20000 in
theorem k_Mo_110 : (Cond.fieldLink "HyphenRowsModel" (110 : Nat) "HyphenRowsModel" "places" "I") ∈ lw_good := k_of 404 rfl rfl
set_option maxRecDepth 20000 in
theorem k_Mo_62 : (Cond.fieldLink "HyphenRowsModel" (62 : Nat) "HyphenRowsModel" "place" "[I") ∈ lw_good := k_of 405 rfl rfl
set_option maxRecDepth 20000 in
theorem k_Lw_17 : (Cond.methodLink "HyphenRowsLaw" (17 : Nat) ({ cls := "HyphenRowsModel", name := "language", desc := "()I" } : MethodName)) ∈ lw_good := k_of 457 rfl rfl
set_option maxRecDepth 20000 in
theorem ki_Mo_language : (Cond.instanceMethod ({ cls := "HyphenRowsModel", name := "language", desc := "()I" } : MethodName)) ∈ lw_good := k_of 458 rfl rfl
set_option maxRecDepth 20000 in
theorem kv_Mo_language : (Cond.selects "HyphenRowsModel" ({ cls := "HyphenRowsModel", name := "language", desc := "()I" } : MethodName) ({ cls := "HyphenRowsModel", name := "language", desc := "()I" } : MethodName)) ∈ lw_good := k_of 459 rfl rfl
set_option maxRecDepth 20000 in
theorem kc_Mo_language : Cond.code y_Mo_language b_Mo_language 1 (Option.some FieldType.int) ∈ lw_good := k_of 460 rfl rfl
set_option maxRecDepth 20000 in
theorem k_Lw_22 : (Cond.methodLink "HyphenRowsLaw" (22 : Nat) ({ cls := "HyphenRowsModel", name := "code", desc := "(IIIZ)I" } : MethodName)) ∈ lw_good := k_of 461 rfl rfl
set_option maxRecDepth 20000 in
theorem ki_Mo_code : (Cond.instanceMethod ({ cls := "HyphenRowsModel", name := "code", desc := "(IIIZ)I" } : MethodName)) ∈ lw_good := k_of 462 rfl rfl
set_option maxRecDepth 20000 in
theorem kv_Mo_code : (Cond.selects "HyphenRowsModel" ({ cls := "HyphenRowsModel", name := "code", desc := "(IIIZ)I" } : MethodName) ({ cls := "HyphenRowsModel", name := "code", desc := "(IIIZ)I" } : MethodName)) ∈ lw_good := k_of 463 rfl rfl
set_option maxRecDepth 20000 in
theorem kc_Mo_code : Cond.code y_Mo_code b_Mo_code 5 (Option.some FieldType.int) ∈ lw_good := k_of 464 rfl rfl
set_option maxRecDepth 20000 in
theorem k_Mo_69 : (Cond.methodLink "HyphenRowsModel" (69 : Nat) ({ cls := "HyphenRowsModel", name := "isLanguage", desc := "(I)Z" } : MethodName)) ∈ lw_good := k_of 465 rfl rfl
set_option maxRecDepth 20000 in
theorem ki_Mo_isLanguage : (Cond.instanceMethod ({ cls := "HyphenRowsModel", name := "isLanguage", desc := "(I)Z" } : MethodName)) ∈ lw_good := k_of 467 rfl rfl
set_option maxRecDepth 20000 in
theorem kc_Mo_isLanguage : Cond.code y_Mo_isLanguage b_Mo_isLanguage 2 (Option.some FieldType.boolean) ∈ lw_good := k_of 468 rfl rfl
set_option maxRecDepth 20000 in
theorem k_Mo_73 : (Cond.methodLink "HyphenRowsModel" (73 : Nat) ({ cls := "HyphenRowsModel", name := "in", desc := "(III)Z" } : MethodName)) ∈ lw_good := k_of 469 rfl rfl
set_option maxRecDepth 20000 in
theorem ks_Mo_in : (Cond.static ({ cls := "HyphenRowsModel", name := "in", desc := "(III)Z" } : MethodName)) ∈ lw_good := k_of 470 rfl rfl
set_option maxRecDepth 20000 in
theorem kc_Mo_in : Cond.code y_Mo_in b_Mo_in 3 (Option.some FieldType.boolean) ∈ lw_good := k_of 471 rfl rfl
set_option maxRecDepth 20000 in
theorem k_Lw_26 : (Cond.methodLink "HyphenRowsLaw" (26 : Nat) ({ cls := "HyphenRowsModel", name := "ends", desc := "(IIIZ)I" } : MethodName)) ∈ lw_good := k_of 472 rfl rfl
set_option maxRecDepth 20000 in
theorem ki_Mo_ends : (Cond.instanceMethod ({ cls := "HyphenRowsModel", name := "ends", desc := "(IIIZ)I" } : MethodName)) ∈ lw_good := k_of 473 rfl rfl
set_option maxRecDepth 20000 in
theorem kv_Mo_ends : (Cond.selects "HyphenRowsModel" ({ cls := "HyphenRowsModel", name := "ends", desc := "(IIIZ)I" } : MethodName) ({ cls := "HyphenRowsModel", name := "ends", desc := "(IIIZ)I" } : MethodName)) ∈ lw_good := k_of 474 rfl rfl
set_option maxRecDepth 20000 in
theorem kc_Mo_ends : Cond.code y_Mo_ends b_Mo_ends 5 (Option.some FieldType.int) ∈ lw_good := k_of 475 rfl rfl
set_option maxRecDepth 20000 in
theorem k_Lw_31 : (Cond.methodLink "HyphenRowsLaw" (31 : Nat) ({ cls := "HyphenRowsModel", name := "next", desc := "(II)I" } : MethodName)) ∈ lw_good := k_of 476 rfl rfl
set_option maxRecDepth 20000 in
theorem ki_Mo_next : (Cond.instanceMethod ({ cls := "HyphenRowsModel", name := "next", desc := "(II)I" } : MethodName)) ∈ lw_good := k_of 477 rfl rfl
set_option maxRecDepth 20000 in
theorem kv_Mo_next : (Cond.selects "HyphenRowsModel" ({ cls := "HyphenRowsModel", name := "next", desc := "(II)I" } : MethodName) ({ cls := "HyphenRowsModel", name := "next", desc := "(II)I" } : MethodName)) ∈ lw_good := k_of 478 rfl rfl
set_option maxRecDepth 20000 in
theorem kc_Mo_next : Cond.code y_Mo_next b_Mo_next 3 (Option.some FieldType.int) ∈ lw_good := k_of 479 rfl rfl
set_option maxRecDepth 20000 in
theorem k_Lw_35 : (Cond.methodLink "HyphenRowsLaw" (35 : Nat) ({ cls := "HyphenRowsModel", name := "pattern", desc := "(II)I" } : MethodName)) ∈ lw_good := k_of 480 rfl rfl
set_option maxRecDepth 20000 in
theorem ki_Mo_pattern : (Cond.instanceMethod ({ cls := "HyphenRowsModel", name := "pattern", desc := "(II)I" } : MethodName)) ∈ lw_good := k_of 481 rfl rfl
set_option maxRecDepth 20000 in
theorem kv_Mo_pattern : (Cond.selects "HyphenRowsModel" ({ cls := "HyphenRowsModel", name := "pattern", desc := "(II)I" } : MethodName) ({ cls := "HyphenRowsModel", name := "pattern", desc := "(II)I" } : MethodName)) ∈ lw_good := k_of 482 rfl rfl
set_option maxRecDepth 20000 in
theorem kc_Mo_pattern : Cond.code y_Mo_pattern b_Mo_pattern 7 (Option.some FieldType.int) ∈ lw_good := k_of 483 rfl rfl
set_option maxRecDepth 20000 in
theorem k_Mo_83 : (Cond.methodLink "HyphenRowsModel" (83 : Nat) ({ cls := "HyphenRowsModel", name := "isSame", desc := "(II)Z" } : MethodName)) ∈ lw_good := k_of 484 rfl rfl
set_option maxRecDepth 20000 in
theorem ki_Mo_isSame : (Cond.instanceMethod ({ cls := "HyphenRowsModel", name := "isSame", desc := "(II)Z" } : MethodName)) ∈ lw_good := k_of 486 rfl rfl
set_option maxRecDepth 20000 in
theorem kc_Mo_isSame : Cond.code y_Mo_isSame b_Mo_isSame 5 (Option.some FieldType.boolean) ∈ lw_good := k_of 487 rfl rfl
set_option maxRecDepth 20000 in
theorem k_Mo_87 : (Cond.methodLink "HyphenRowsModel" (87 : Nat) ({ cls := "HyphenRowsModel", name := "isPattern", desc := "()Z" } : MethodName)) ∈ lw_good := k_of 488 rfl rfl
set_option maxRecDepth 20000 in
theorem ki_Mo_isPattern : (Cond.instanceMethod ({ cls := "HyphenRowsModel", name := "isPattern", desc := "()Z" } : MethodName)) ∈ lw_good := k_of 490 rfl rfl
set_option maxRecDepth 20000 in
theorem kc_Mo_isPattern : Cond.code y_Mo_isPattern b_Mo_isPattern 4 (Option.some FieldType.boolean) ∈ lw_good := k_of 491 rfl rfl
set_option maxRecDepth 20000 in
theorem k_Lw_40 : (Cond.methodLink "HyphenRowsLaw" (40 : Nat) ({ cls := "HyphenRowsModel", name := "sign", desc := "(I)I" } : MethodName)) ∈ lw_good := k_of 492 rfl rfl
set_option maxRecDepth 20000 in
theorem ki_Mo_sign : (Cond.instanceMethod ({ cls := "HyphenRowsModel", name := "sign", desc := "(I)I" } : MethodName)) ∈ lw_good := k_of 493 rfl rfl
set_option maxRecDepth 20000 in
theorem kv_Mo_sign : (Cond.selects "HyphenRowsModel" ({ cls := "HyphenRowsModel", name := "sign", desc := "(I)I" } : MethodName) ({ cls := "HyphenRowsModel", name := "sign", desc := "(I)I" } : MethodName)) ∈ lw_good := k_of 494 rfl rfl
set_option maxRecDepth 20000 in
theorem kc_Mo_sign : Cond.code y_Mo_sign b_Mo_sign 2 (Option.some FieldType.int) ∈ lw_good := k_of 495 rfl rfl
set_option maxRecDepth 20000 in
theorem k_Lw_44 : (Cond.methodLink "HyphenRowsLaw" (44 : Nat) ({ cls := "HyphenRowsModel", name := "clear", desc := "()I" } : MethodName)) ∈ lw_good := k_of 496 rfl rfl
set_option maxRecDepth 20000 in
theorem ki_Mo_clear : (Cond.instanceMethod ({ cls := "HyphenRowsModel", name := "clear", desc := "()I" } : MethodName)) ∈ lw_good := k_of 497 rfl rfl
set_option maxRecDepth 20000 in
theorem kv_Mo_clear : (Cond.selects "HyphenRowsModel" ({ cls := "HyphenRowsModel", name := "clear", desc := "()I" } : MethodName) ({ cls := "HyphenRowsModel", name := "clear", desc := "()I" } : MethodName)) ∈ lw_good := k_of 498 rfl rfl
set_option maxRecDepth 20000 in
theorem kc_Mo_clear : Cond.code y_Mo_clear b_Mo_clear 2 (Option.some FieldType.int) ∈ lw_good := k_of 499 rfl rfl
set_option maxRecDepth 20000 in
theorem k_Lw_48 : (Cond.methodLink "HyphenRowsLaw" (48 : Nat) ({ cls := "HyphenRowsModel", name := "exception", desc := "(II)I" } : MethodName)) ∈ lw_good := k_of 500 rfl rfl
set_option maxRecDepth 20000 in
theorem ki_Mo_exception : (Cond.instanceMethod ({ cls := "HyphenRowsModel", name := "exception", desc := "(II)I" } : MethodName)) ∈ lw_good := k_of 501 rfl rfl
set_option maxRecDepth 20000 in
theorem kv_Mo_exception : (Cond.selects "HyphenRowsModel" ({ cls := "HyphenRowsModel", name := "exception", desc := "(II)I" } : MethodName) ({ cls := "HyphenRowsModel", name := "exception", desc := "(II)I" } : MethodName)) ∈ lw_good := k_of 502 rfl rfl
set_option maxRecDepth 20000 in
theorem kc_Mo_exception : Cond.code y_Mo_exception b_Mo_exception 5 (Option.some FieldType.int) ∈ lw_good := k_of 503 rfl rfl
set_option maxRecDepth 20000 in
theorem k_Mo_100 : (Cond.methodLink "HyphenRowsModel" (100 : Nat) ({ cls := "HyphenRowsModel", name := "spell", desc := "(I)Z" } : MethodName)) ∈ lw_good := k_of 504 rfl rfl
set_option maxRecDepth 20000 in
theorem ki_Mo_spell : (Cond.instanceMethod ({ cls := "HyphenRowsModel", name := "spell", desc := "(I)Z" } : MethodName)) ∈ lw_good := k_of 506 rfl rfl
set_option maxRecDepth 20000 in
theorem kc_Mo_spell : Cond.code y_Mo_spell b_Mo_spell 4 (Option.some FieldType.boolean) ∈ lw_good := k_of 507 rfl rfl
set_option maxRecDepth 20000 in
theorem k_Mo_103 : (Cond.methodLink "HyphenRowsModel" (103 : Nat) ({ cls := "HyphenRowsModel", name := "exceptionOf", desc := "(I)I" } : MethodName)) ∈ lw_good := k_of 508 rfl rfl
set_option maxRecDepth 20000 in
theorem ki_Mo_exceptionOf : (Cond.instanceMethod ({ cls := "HyphenRowsModel", name := "exceptionOf", desc := "(I)I" } : MethodName)) ∈ lw_good := k_of 510 rfl rfl
set_option maxRecDepth 20000 in
theorem kc_Mo_exceptionOf : Cond.code y_Mo_exceptionOf b_Mo_exceptionOf 5 (Option.some FieldType.int) ∈ lw_good := k_of 511 rfl rfl
set_option maxRecDepth 20000 in
theorem k_Lw_52 : (Cond.methodLink "HyphenRowsLaw" (52 : Nat) ({ cls := "HyphenRowsModel", name := "drop", desc := "(I)I" } : MethodName)) ∈ lw_good := k_of 512 rfl rfl
set_option maxRecDepth 20000 in
theorem ki_Mo_drop : (Cond.instanceMethod ({ cls := "HyphenRowsModel", name := "drop", desc := "(I)I" } : MethodName)) ∈ lw_good := k_of 513 rfl rfl
set_option maxRecDepth 20000 in
theorem kv_Mo_drop : (Cond.selects "HyphenRowsModel" ({ cls := "HyphenRowsModel", name := "drop", desc := "(I)I" } : MethodName) ({ cls := "HyphenRowsModel", name := "drop", desc := "(I)I" } : MethodName)) ∈ lw_good := k_of 514 rfl rfl
set_option maxRecDepth 20000 in
theorem kc_Mo_drop : Cond.code y_Mo_drop b_Mo_drop 4 (Option.some FieldType.int) ∈ lw_good := k_of 515 rfl rfl
set_option maxRecDepth 20000 in
theorem k_Lw_56 : (Cond.methodLink "HyphenRowsLaw" (56 : Nat) ({ cls := "HyphenRowsModel", name := "run", desc := "(I)I" } : MethodName)) ∈ lw_good := k_of 516 rfl rfl
set_option maxRecDepth 20000 in
theorem ki_Mo_run : (Cond.instanceMethod ({ cls := "HyphenRowsModel", name := "run", desc := "(I)I" } : MethodName)) ∈ lw_good := k_of 517 rfl rfl
set_option maxRecDepth 20000 in
theorem kv_Mo_run : (Cond.selects "HyphenRowsModel" ({ cls := "HyphenRowsModel", name := "run", desc := "(I)I" } : MethodName) ({ cls := "HyphenRowsModel", name := "run", desc := "(I)I" } : MethodName)) ∈ lw_good := k_of 518 rfl rfl
set_option maxRecDepth 20000 in
theorem kc_Mo_run : Cond.code y_Mo_run b_Mo_run 7 (Option.some FieldType.int) ∈ lw_good := k_of 519 rfl rfl
set_option maxRecDepth 20000 in
theorem k_Mo_113 : (Cond.methodLink "HyphenRowsModel" (113 : Nat) ({ cls := "HyphenRowsModel", name := "digitOf", desc := "(II)I" } : MethodName)) ∈ lw_good := k_of 520 rfl rfl
set_option maxRecDepth 20000 in
theorem ki_Mo_digitOf : (Cond.instanceMethod ({ cls := "HyphenRowsModel", name := "digitOf", desc := "(II)I" } : MethodName)) ∈ lw_good := k_of 522 rfl rfl
set_option maxRecDepth 20000 in
theorem kc_Mo_digitOf : Cond.code y_Mo_digitOf b_Mo_digitOf 7 (Option.some FieldType.int) ∈ lw_good := k_of 523 rfl rfl
set_option maxRecDepth 20000 in
theorem k_Mo_107 : (Cond.methodLink "HyphenRowsModel" (107 : Nat) ({ cls := "HyphenRowsModel", name := "stands", desc := "(II)Z" } : MethodName)) ∈ lw_good := k_of 524 rfl rfl
set_option maxRecDepth 20000 in
theorem ki_Mo_stands : (Cond.instanceMethod ({ cls := "HyphenRowsModel", name := "stands", desc := "(II)Z" } : MethodName)) ∈ lw_good := k_of 526 rfl rfl
set_option maxRecDepth 20000 in
theorem kc_Mo_stands : Cond.code y_Mo_stands b_Mo_stands 5 (Option.some FieldType.boolean) ∈ lw_good := k_of 527 rfl rfl
set_option maxRecDepth 20000 in
theorem k_Lw_60 : (Cond.methodLink "HyphenRowsLaw" (60 : Nat) ({ cls := "HyphenRowsModel", name := "at", desc := "(I)I" } : MethodName)) ∈ lw_good := k_of 528 rfl rfl
set_option maxRecDepth 20000 in
theorem ki_Mo_at : (Cond.instanceMethod ({ cls := "HyphenRowsModel", name := "at", desc := "(I)I" } : MethodName)) ∈ lw_good := k_of 529 rfl rfl
set_option maxRecDepth 20000 in
theorem kv_Mo_at : (Cond.selects "HyphenRowsModel" ({ cls := "HyphenRowsModel", name := "at", desc := "(I)I" } : MethodName) ({ cls := "HyphenRowsModel", name := "at", desc := "(I)I" } : MethodName)) ∈ lw_good := k_of 530 rfl rfl
set_option maxRecDepth 20000 in
theorem kc_Mo_at : Cond.code y_Mo_at b_Mo_at 2 (Option.some FieldType.int) ∈ lw_good := k_of 531 rfl rfl
set_option maxRecDepth 20000 in
theorem k_Lw_64 : (Cond.methodLink "HyphenRowsLaw" (64 : Nat) ({ cls := "HyphenRowsModel", name := "digit", desc := "(II)I" } : MethodName)) ∈ lw_good := k_of 532 rfl rfl
set_option maxRecDepth 20000 in
theorem ki_Mo_digit : (Cond.instanceMethod ({ cls := "HyphenRowsModel", name := "digit", desc := "(II)I" } : MethodName)) ∈ lw_good := k_of 533 rfl rfl
set_option maxRecDepth 20000 in
theorem kv_Mo_digit : (Cond.selects "HyphenRowsModel" ({ cls := "HyphenRowsModel", name := "digit", desc := "(II)I" } : MethodName) ({ cls := "HyphenRowsModel", name := "digit", desc := "(II)I" } : MethodName)) ∈ lw_good := k_of 534 rfl rfl
set_option maxRecDepth 20000 in
theorem kc_Mo_digit : Cond.code y_Mo_digit b_Mo_digit 3 (Option.some FieldType.int) ∈ lw_good := k_of 535 rfl rfl
set_option maxRecDepth 20000 in
theorem k_Lw_68 : (Cond.methodLink "HyphenRowsLaw" (68 : Nat) ({ cls := "HyphenRowsModel", name := "patterns", desc := "()I" } : MethodName)) ∈ lw_good := k_of 536 rfl rfl
set_option maxRecDepth 20000 in
theorem ki_Mo_patterns : (Cond.instanceMethod ({ cls := "HyphenRowsModel", name := "patterns", desc := "()I" } : MethodName)) ∈ lw_good := k_of 537 rfl rfl
set_option maxRecDepth 20000 in
theorem kv_Mo_patterns : (Cond.selects "HyphenRowsModel" ({ cls := "HyphenRowsModel", name := "patterns", desc := "()I" } : MethodName) ({ cls := "HyphenRowsModel", name := "patterns", desc := "()I" } : MethodName)) ∈ lw_good := k_of 538 rfl rfl
set_option maxRecDepth 20000 in
theorem kc_Mo_patterns : Cond.code y_Mo_patterns b_Mo_patterns 1 (Option.some FieldType.int) ∈ lw_good := k_of 539 rfl rfl
set_option maxRecDepth 20000 in
theorem k_Lw_72 : (Cond.methodLink "HyphenRowsLaw" (72 : Nat) ({ cls := "HyphenRowsModel", name := "exceptions", desc := "()I" } : MethodName)) ∈ lw_good := k_of 540 rfl rfl
set_option maxRecDepth 20000 in
theorem ki_Mo_exceptions : (Cond.instanceMethod ({ cls := "HyphenRowsModel", name := "exceptions", desc := "()I" } : MethodName)) ∈ lw_good := k_of 541 rfl rfl
set_option maxRecDepth 20000 in
theorem kv_Mo_exceptions : (Cond.selects "HyphenRowsModel" ({ cls := "HyphenRowsModel", name := "exceptions", desc := "()I" } : MethodName) ({ cls := "HyphenRowsModel", name := "exceptions", desc := "()I" } : MethodName)) ∈ lw_good := k_of 542 rfl rfl
set_option maxRecDepth 20000 in
theorem kc_Mo_exceptions : Cond.code y_Mo_exceptions b_Mo_exceptions 1 (Option.some FieldType.int) ∈ lw_good := k_of 543 rfl rfl
set_option maxRecDepth 20000 in
theorem km_Oa_getClass : (Cond.sameMethod "[Ljava/lang/Object;" "java/lang/Object" "getClass" "()Ljava/lang/Class;") ∈ lw_good := k_of 547 rfl rfl
set_option maxRecDepth 20000 in
theorem kv_Oa_Oj_getClass : (Cond.selects "[Ljava/lang/Object;" ({ cls := "java/lang/Object", name := "getClass", desc := "()Ljava/lang/Class;" } : MethodName) ({ cls := "java/lang/Object", name := "getClass", desc := "()Ljava/lang/Class;" } : MethodName)) ∈ lw_good := k_of 548 rfl rfl
theorem kv_AL_add3 : Cond.selects "java/util/ArrayList" y_AL_add3 y_AL_add3 ∈ lw_good := k_sel 0 rfl rfl
theorem kv_AL_grow0 : Cond.selects "java/util/ArrayList" y_AL_grow0 y_AL_grow0 ∈ lw_good := k_sel 1 rfl rfl
theorem kv_AL_grow1 : Cond.selects "java/util/ArrayList" y_AL_grow1 y_AL_grow1 ∈ lw_good := k_sel 2 rfl rfl
theorem kv_HR_isLanguage : Cond.selects "HyphenRows" y_HR_isLanguage y_HR_isLanguage ∈ lw_good := k_sel 3 rfl rfl
theorem kv_HR_isPatternRow : Cond.selects "HyphenRows" y_HR_isPatternRow y_HR_isPatternRow ∈ lw_good := k_sel 4 rfl rfl
theorem kv_HR_patternWithMadeRow : Cond.selects "HyphenRows" y_HR_patternWithMadeRow y_HR_patternWithMadeRow ∈ lw_good := k_sel 5 rfl rfl
theorem kv_HR_addPattern : Cond.selects "HyphenRows" y_HR_addPattern y_HR_addPattern ∈ lw_good := k_sel 6 rfl rfl
theorem kv_HR_spellWord : Cond.selects "HyphenRows" y_HR_spellWord y_HR_spellWord ∈ lw_good := k_sel 7 rfl rfl
theorem kv_HR_exceptionWithWordsLetters : Cond.selects "HyphenRows" y_HR_exceptionWithWordsLetters y_HR_exceptionWithWordsLetters ∈ lw_good := k_sel 8 rfl rfl
theorem kv_AL_fastRemove : Cond.selects "java/util/ArrayList" y_AL_fastRemove y_AL_fastRemove ∈ lw_good := k_sel 9 rfl rfl
theorem kv_HR_staysWhole : Cond.selects "HyphenRows" y_HR_staysWhole y_HR_staysWhole ∈ lw_good := k_sel 10 rfl rfl
theorem kv_HR_findRowDigits : Cond.selects "HyphenRows" y_HR_findRowDigits y_HR_findRowDigits ∈ lw_good := k_sel 11 rfl rfl
theorem kv_HR_takeToldPlaces : Cond.selects "HyphenRows" y_HR_takeToldPlaces y_HR_takeToldPlaces ∈ lw_good := k_sel 12 rfl rfl
theorem kv_HR_layOverRow : Cond.selects "HyphenRows" y_HR_layOverRow y_HR_layOverRow ∈ lw_good := k_sel 13 rfl rfl
theorem kv_HR_raiseDigits : Cond.selects "HyphenRows" y_HR_raiseDigits y_HR_raiseDigits ∈ lw_good := k_sel 14 rfl rfl
theorem kv_Mo_isLanguage : Cond.selects "HyphenRowsModel" y_Mo_isLanguage y_Mo_isLanguage ∈ lw_good := k_sel 15 rfl rfl
theorem kv_Mo_isSame : Cond.selects "HyphenRowsModel" y_Mo_isSame y_Mo_isSame ∈ lw_good := k_sel 16 rfl rfl
theorem kv_Mo_isPattern : Cond.selects "HyphenRowsModel" y_Mo_isPattern y_Mo_isPattern ∈ lw_good := k_sel 17 rfl rfl
theorem kv_Mo_spell : Cond.selects "HyphenRowsModel" y_Mo_spell y_Mo_spell ∈ lw_good := k_sel 18 rfl rfl
theorem kv_Mo_exceptionOf : Cond.selects "HyphenRowsModel" y_Mo_exceptionOf y_Mo_exceptionOf ∈ lw_good := k_sel 19 rfl rfl
theorem kv_Mo_digitOf : Cond.selects "HyphenRowsModel" y_Mo_digitOf y_Mo_digitOf ∈ lw_good := k_sel 20 rfl rfl
theorem kv_Mo_stands : Cond.selects "HyphenRowsModel" y_Mo_stands y_Mo_stands ∈ lw_good := k_sel 21 rfl rfl
set_option maxRecDepth 20000 in
theorem i_HR : ∀ x ∈ u_ws R_HR F_HR 13, x ∈ lw_good := by
  intro x hx
  obtain ⟨k, hk, e1⟩ := List.mem_map.mp hx
  have hk : k < 13 := List.mem_range.mp hk
  subst e1
  match k, hk with
  | 0, _ => exact k_of 62 rfl rfl
  | 1, _ => exact k_of 64 rfl rfl
  | 2, _ => exact k_of 66 rfl rfl
  | 3, _ => exact k_of 68 rfl rfl
  | 4, _ => exact k_of 70 rfl rfl
  | 5, _ => exact k_of 72 rfl rfl
  | 6, _ => exact k_of 74 rfl rfl
  | 7, _ => exact k_of 76 rfl rfl
  | 8, _ => exact k_of 78 rfl rfl
  | 9, _ => exact k_of 80 rfl rfl
  | 10, _ => exact k_of 82 rfl rfl
  | 11, _ => exact k_of 84 rfl rfl
  | 12, _ => exact k_of 86 rfl rfl
  | k + 13, h => exact absurd h (by omega)
set_option maxRecDepth 20000 in
theorem i_La : ∀ x ∈ u_ws R_La F_La 5, x ∈ lw_good := by
  intro x hx
  obtain ⟨k, hk, e1⟩ := List.mem_map.mp hx
  have hk : k < 5 := List.mem_range.mp hk
  subst e1
  match k, hk with
  | 0, _ => exact k_of 114 rfl rfl
  | 1, _ => exact k_of 116 rfl rfl
  | 2, _ => exact k_of 118 rfl rfl
  | 3, _ => exact k_of 120 rfl rfl
  | 4, _ => exact k_of 122 rfl rfl
  | k + 5, h => exact absurd h (by omega)
set_option maxRecDepth 20000 in
theorem i_Pa : ∀ x ∈ u_ws R_Pa F_Pa 3, x ∈ lw_good := by
  intro x hx
  obtain ⟨k, hk, e1⟩ := List.mem_map.mp hx
  have hk : k < 3 := List.mem_range.mp hk
  subst e1
  match k, hk with
  | 0, _ => exact k_of 263 rfl rfl
  | 1, _ => exact k_of 265 rfl rfl
  | 2, _ => exact k_of 267 rfl rfl
  | k + 3, h => exact absurd h (by omega)
set_option maxRecDepth 20000 in
theorem i_To : ∀ x ∈ u_ws R_To F_To 3, x ∈ lw_good := by
  intro x hx
  obtain ⟨k, hk, e1⟩ := List.mem_map.mp hx
  have hk : k < 3 := List.mem_range.mp hk
  subst e1
  match k, hk with
  | 0, _ => exact k_of 311 rfl rfl
  | 1, _ => exact k_of 313 rfl rfl
  | 2, _ => exact k_of 315 rfl rfl
  | k + 3, h => exact absurd h (by omega)
set_option maxRecDepth 20000 in
theorem i_AL : ∀ x ∈ u_ws R_AL F_AL 3, x ∈ lw_good := by
  intro x hx
  obtain ⟨k, hk, e1⟩ := List.mem_map.mp hx
  have hk : k < 3 := List.mem_range.mp hk
  subst e1
  match k, hk with
  | 0, _ => exact k_of 42 rfl rfl
  | 1, _ => exact k_of 44 rfl rfl
  | 2, _ => exact k_of 46 rfl rfl
  | k + 3, h => exact absurd h (by omega)
set_option maxRecDepth 20000 in
theorem i_Mo : ∀ x ∈ u_ws R_Mo F_Mo 25, x ∈ lw_good := by
  intro x hx
  obtain ⟨k, hk, e1⟩ := List.mem_map.mp hx
  have hk : k < 25 := List.mem_range.mp hk
  subst e1
  match k, hk with
  | 0, _ => exact k_of 406 rfl rfl
  | 1, _ => exact k_of 408 rfl rfl
  | 2, _ => exact k_of 410 rfl rfl
  | 3, _ => exact k_of 412 rfl rfl
  | 4, _ => exact k_of 414 rfl rfl
  | 5, _ => exact k_of 416 rfl rfl
  | 6, _ => exact k_of 418 rfl rfl
  | 7, _ => exact k_of 420 rfl rfl
  | 8, _ => exact k_of 422 rfl rfl
  | 9, _ => exact k_of 424 rfl rfl
  | 10, _ => exact k_of 426 rfl rfl
  | 11, _ => exact k_of 428 rfl rfl
  | 12, _ => exact k_of 430 rfl rfl
  | 13, _ => exact k_of 432 rfl rfl
  | 14, _ => exact k_of 434 rfl rfl
  | 15, _ => exact k_of 436 rfl rfl
  | 16, _ => exact k_of 438 rfl rfl
  | 17, _ => exact k_of 440 rfl rfl
  | 18, _ => exact k_of 442 rfl rfl
  | 19, _ => exact k_of 444 rfl rfl
  | 20, _ => exact k_of 446 rfl rfl
  | 21, _ => exact k_of 448 rfl rfl
  | 22, _ => exact k_of 450 rfl rfl
  | 23, _ => exact k_of 452 rfl rfl
  | 24, _ => exact k_of 454 rfl rfl
  | k + 25, h => exact absurd h (by omega)
theorem kd_HR_init : y_HR_init.cls ≠ "java/lang/invoke/MethodHandle" ∧ y_HR_init.cls ≠ "java/lang/invoke/VarHandle" ∧ (parseMethodDescriptor y_HR_init.desc).map (fun d => d.parameters.length) = some 0 := by decide +kernel
theorem kd_Oj_init : y_Oj_init.cls ≠ "java/lang/invoke/MethodHandle" ∧ y_Oj_init.cls ≠ "java/lang/invoke/VarHandle" ∧ (parseMethodDescriptor y_Oj_init.desc).map (fun d => d.parameters.length) = some 0 := by decide +kernel
theorem kd_AL_init : y_AL_init.cls ≠ "java/lang/invoke/MethodHandle" ∧ y_AL_init.cls ≠ "java/lang/invoke/VarHandle" ∧ (parseMethodDescriptor y_AL_init.desc).map (fun d => d.parameters.length) = some 0 := by decide +kernel
theorem kd_Ab_init : y_Ab_init.cls ≠ "java/lang/invoke/MethodHandle" ∧ y_Ab_init.cls ≠ "java/lang/invoke/VarHandle" ∧ (parseMethodDescriptor y_Ab_init.desc).map (fun d => d.parameters.length) = some 0 := by decide +kernel
theorem kd_Ac_init : y_Ac_init.cls ≠ "java/lang/invoke/MethodHandle" ∧ y_Ac_init.cls ≠ "java/lang/invoke/VarHandle" ∧ (parseMethodDescriptor y_Ac_init.desc).map (fun d => d.parameters.length) = some 0 := by decide +kernel
theorem kd_HR_language : y_HR_language.cls ≠ "java/lang/invoke/MethodHandle" ∧ y_HR_language.cls ≠ "java/lang/invoke/VarHandle" ∧ (parseMethodDescriptor y_HR_language.desc).map (fun d => d.parameters.length) = some 0 := by decide +kernel
theorem kd_AL_size : y_AL_size.cls ≠ "java/lang/invoke/MethodHandle" ∧ y_AL_size.cls ≠ "java/lang/invoke/VarHandle" ∧ (parseMethodDescriptor y_AL_size.desc).map (fun d => d.parameters.length) = some 0 := by decide +kernel
theorem kd_La_init : y_La_init.cls ≠ "java/lang/invoke/MethodHandle" ∧ y_La_init.cls ≠ "java/lang/invoke/VarHandle" ∧ (parseMethodDescriptor y_La_init.desc).map (fun d => d.parameters.length) = some 0 := by decide +kernel
theorem kd_AL_add1 : y_AL_add1.cls ≠ "java/lang/invoke/MethodHandle" ∧ y_AL_add1.cls ≠ "java/lang/invoke/VarHandle" ∧ (parseMethodDescriptor y_AL_add1.desc).map (fun d => d.parameters.length) = some 1 := by decide +kernel
theorem kd_AL_add3 : y_AL_add3.cls ≠ "java/lang/invoke/MethodHandle" ∧ y_AL_add3.cls ≠ "java/lang/invoke/VarHandle" ∧ (parseMethodDescriptor y_AL_add3.desc).map (fun d => d.parameters.length) = some 3 := by decide +kernel
theorem kd_AL_grow0 : y_AL_grow0.cls ≠ "java/lang/invoke/MethodHandle" ∧ y_AL_grow0.cls ≠ "java/lang/invoke/VarHandle" ∧ (parseMethodDescriptor y_AL_grow0.desc).map (fun d => d.parameters.length) = some 0 := by decide +kernel
theorem kd_AL_grow1 : y_AL_grow1.cls ≠ "java/lang/invoke/MethodHandle" ∧ y_AL_grow1.cls ≠ "java/lang/invoke/VarHandle" ∧ (parseMethodDescriptor y_AL_grow1.desc).map (fun d => d.parameters.length) = some 1 := by decide +kernel
theorem kd_As_newLength : y_As_newLength.cls ≠ "java/lang/invoke/MethodHandle" ∧ y_As_newLength.cls ≠ "java/lang/invoke/VarHandle" ∧ (parseMethodDescriptor y_As_newLength.desc).map (fun d => d.parameters.length) = some 3 := by decide +kernel
theorem kd_Ma_max : y_Ma_max.cls ≠ "java/lang/invoke/MethodHandle" ∧ y_Ma_max.cls ≠ "java/lang/invoke/VarHandle" ∧ (parseMethodDescriptor y_Ma_max.desc).map (fun d => d.parameters.length) = some 2 := by decide +kernel
theorem kd_As_hugeLength : y_As_hugeLength.cls ≠ "java/lang/invoke/MethodHandle" ∧ y_As_hugeLength.cls ≠ "java/lang/invoke/VarHandle" ∧ (parseMethodDescriptor y_As_hugeLength.desc).map (fun d => d.parameters.length) = some 2 := by decide +kernel
theorem kd_Ar_copyOf2 : y_Ar_copyOf2.cls ≠ "java/lang/invoke/MethodHandle" ∧ y_Ar_copyOf2.cls ≠ "java/lang/invoke/VarHandle" ∧ (parseMethodDescriptor y_Ar_copyOf2.desc).map (fun d => d.parameters.length) = some 2 := by decide +kernel
theorem kd_Ar_copyOf3 : y_Ar_copyOf3.cls ≠ "java/lang/invoke/MethodHandle" ∧ y_Ar_copyOf3.cls ≠ "java/lang/invoke/VarHandle" ∧ (parseMethodDescriptor y_Ar_copyOf3.desc).map (fun d => d.parameters.length) = some 3 := by decide +kernel
theorem kd_Ma_min : y_Ma_min.cls ≠ "java/lang/invoke/MethodHandle" ∧ y_Ma_min.cls ≠ "java/lang/invoke/VarHandle" ∧ (parseMethodDescriptor y_Ma_min.desc).map (fun d => d.parameters.length) = some 2 := by decide +kernel
theorem kd_HR_code : y_HR_code.cls ≠ "java/lang/invoke/MethodHandle" ∧ y_HR_code.cls ≠ "java/lang/invoke/VarHandle" ∧ (parseMethodDescriptor y_HR_code.desc).map (fun d => d.parameters.length) = some 4 := by decide +kernel
theorem kd_HR_isLanguage : y_HR_isLanguage.cls ≠ "java/lang/invoke/MethodHandle" ∧ y_HR_isLanguage.cls ≠ "java/lang/invoke/VarHandle" ∧ (parseMethodDescriptor y_HR_isLanguage.desc).map (fun d => d.parameters.length) = some 1 := by decide +kernel
theorem kd_HR_isSign : y_HR_isSign.cls ≠ "java/lang/invoke/MethodHandle" ∧ y_HR_isSign.cls ≠ "java/lang/invoke/VarHandle" ∧ (parseMethodDescriptor y_HR_isSign.desc).map (fun d => d.parameters.length) = some 1 := by decide +kernel
theorem kd_HR_isLetterOrZero : y_HR_isLetterOrZero.cls ≠ "java/lang/invoke/MethodHandle" ∧ y_HR_isLetterOrZero.cls ≠ "java/lang/invoke/VarHandle" ∧ (parseMethodDescriptor y_HR_isLetterOrZero.desc).map (fun d => d.parameters.length) = some 1 := by decide +kernel
theorem kd_AL_get : y_AL_get.cls ≠ "java/lang/invoke/MethodHandle" ∧ y_AL_get.cls ≠ "java/lang/invoke/VarHandle" ∧ (parseMethodDescriptor y_AL_get.desc).map (fun d => d.parameters.length) = some 1 := by decide +kernel
theorem kd_Ob_checkIndex : y_Ob_checkIndex.cls ≠ "java/lang/invoke/MethodHandle" ∧ y_Ob_checkIndex.cls ≠ "java/lang/invoke/VarHandle" ∧ (parseMethodDescriptor y_Ob_checkIndex.desc).map (fun d => d.parameters.length) = some 2 := by decide +kernel
theorem kd_Pc_checkIndex : y_Pc_checkIndex.cls ≠ "java/lang/invoke/MethodHandle" ∧ y_Pc_checkIndex.cls ≠ "java/lang/invoke/VarHandle" ∧ (parseMethodDescriptor y_Pc_checkIndex.desc).map (fun d => d.parameters.length) = some 3 := by decide +kernel
theorem kd_AL_elementData : y_AL_elementData.cls ≠ "java/lang/invoke/MethodHandle" ∧ y_AL_elementData.cls ≠ "java/lang/invoke/VarHandle" ∧ (parseMethodDescriptor y_AL_elementData.desc).map (fun d => d.parameters.length) = some 1 := by decide +kernel
theorem kd_HR_ends : y_HR_ends.cls ≠ "java/lang/invoke/MethodHandle" ∧ y_HR_ends.cls ≠ "java/lang/invoke/VarHandle" ∧ (parseMethodDescriptor y_HR_ends.desc).map (fun d => d.parameters.length) = some 4 := by decide +kernel
theorem kd_HR_isLeast : y_HR_isLeast.cls ≠ "java/lang/invoke/MethodHandle" ∧ y_HR_isLeast.cls ≠ "java/lang/invoke/VarHandle" ∧ (parseMethodDescriptor y_HR_isLeast.desc).map (fun d => d.parameters.length) = some 1 := by decide +kernel
theorem kd_HR_next : y_HR_next.cls ≠ "java/lang/invoke/MethodHandle" ∧ y_HR_next.cls ≠ "java/lang/invoke/VarHandle" ∧ (parseMethodDescriptor y_HR_next.desc).map (fun d => d.parameters.length) = some 2 := by decide +kernel
theorem kd_HR_isDigit : y_HR_isDigit.cls ≠ "java/lang/invoke/MethodHandle" ∧ y_HR_isDigit.cls ≠ "java/lang/invoke/VarHandle" ∧ (parseMethodDescriptor y_HR_isDigit.desc).map (fun d => d.parameters.length) = some 1 := by decide +kernel
theorem kd_HR_pattern : y_HR_pattern.cls ≠ "java/lang/invoke/MethodHandle" ∧ y_HR_pattern.cls ≠ "java/lang/invoke/VarHandle" ∧ (parseMethodDescriptor y_HR_pattern.desc).map (fun d => d.parameters.length) = some 2 := by decide +kernel
theorem kd_HR_isPatternRow : y_HR_isPatternRow.cls ≠ "java/lang/invoke/MethodHandle" ∧ y_HR_isPatternRow.cls ≠ "java/lang/invoke/VarHandle" ∧ (parseMethodDescriptor y_HR_isPatternRow.desc).map (fun d => d.parameters.length) = some 1 := by decide +kernel
theorem kd_HR_patternWithMadeRow : y_HR_patternWithMadeRow.cls ≠ "java/lang/invoke/MethodHandle" ∧ y_HR_patternWithMadeRow.cls ≠ "java/lang/invoke/VarHandle" ∧ (parseMethodDescriptor y_HR_patternWithMadeRow.desc).map (fun d => d.parameters.length) = some 2 := by decide +kernel
theorem kd_HR_standsAt : y_HR_standsAt.cls ≠ "java/lang/invoke/MethodHandle" ∧ y_HR_standsAt.cls ≠ "java/lang/invoke/VarHandle" ∧ (parseMethodDescriptor y_HR_standsAt.desc).map (fun d => d.parameters.length) = some 3 := by decide +kernel
theorem kd_HR_addPattern : y_HR_addPattern.cls ≠ "java/lang/invoke/MethodHandle" ∧ y_HR_addPattern.cls ≠ "java/lang/invoke/VarHandle" ∧ (parseMethodDescriptor y_HR_addPattern.desc).map (fun d => d.parameters.length) = some 2 := by decide +kernel
theorem kd_Ar_copyOfI : y_Ar_copyOfI.cls ≠ "java/lang/invoke/MethodHandle" ∧ y_Ar_copyOfI.cls ≠ "java/lang/invoke/VarHandle" ∧ (parseMethodDescriptor y_Ar_copyOfI.desc).map (fun d => d.parameters.length) = some 2 := by decide +kernel
theorem kd_Pa_init : y_Pa_init.cls ≠ "java/lang/invoke/MethodHandle" ∧ y_Pa_init.cls ≠ "java/lang/invoke/VarHandle" ∧ (parseMethodDescriptor y_Pa_init.desc).map (fun d => d.parameters.length) = some 3 := by decide +kernel
theorem kd_HR_sign : y_HR_sign.cls ≠ "java/lang/invoke/MethodHandle" ∧ y_HR_sign.cls ≠ "java/lang/invoke/VarHandle" ∧ (parseMethodDescriptor y_HR_sign.desc).map (fun d => d.parameters.length) = some 1 := by decide +kernel
theorem kd_HR_clear : y_HR_clear.cls ≠ "java/lang/invoke/MethodHandle" ∧ y_HR_clear.cls ≠ "java/lang/invoke/VarHandle" ∧ (parseMethodDescriptor y_HR_clear.desc).map (fun d => d.parameters.length) = some 0 := by decide +kernel
theorem kd_HR_exception : y_HR_exception.cls ≠ "java/lang/invoke/MethodHandle" ∧ y_HR_exception.cls ≠ "java/lang/invoke/VarHandle" ∧ (parseMethodDescriptor y_HR_exception.desc).map (fun d => d.parameters.length) = some 2 := by decide +kernel
theorem kd_HR_spellWord : y_HR_spellWord.cls ≠ "java/lang/invoke/MethodHandle" ∧ y_HR_spellWord.cls ≠ "java/lang/invoke/VarHandle" ∧ (parseMethodDescriptor y_HR_spellWord.desc).map (fun d => d.parameters.length) = some 1 := by decide +kernel
theorem kd_HR_exceptionWithWordsLetters : y_HR_exceptionWithWordsLetters.cls ≠ "java/lang/invoke/MethodHandle" ∧ y_HR_exceptionWithWordsLetters.cls ≠ "java/lang/invoke/VarHandle" ∧ (parseMethodDescriptor y_HR_exceptionWithWordsLetters.desc).map (fun d => d.parameters.length) = some 1 := by decide +kernel
theorem kd_Ar_copyOfRange : y_Ar_copyOfRange.cls ≠ "java/lang/invoke/MethodHandle" ∧ y_Ar_copyOfRange.cls ≠ "java/lang/invoke/VarHandle" ∧ (parseMethodDescriptor y_Ar_copyOfRange.desc).map (fun d => d.parameters.length) = some 3 := by decide +kernel
theorem kd_Ar_copyOfRangeInt : y_Ar_copyOfRangeInt.cls ≠ "java/lang/invoke/MethodHandle" ∧ y_Ar_copyOfRangeInt.cls ≠ "java/lang/invoke/VarHandle" ∧ (parseMethodDescriptor y_Ar_copyOfRangeInt.desc).map (fun d => d.parameters.length) = some 3 := by decide +kernel
theorem kd_Ar_checkLength : y_Ar_checkLength.cls ≠ "java/lang/invoke/MethodHandle" ∧ y_Ar_checkLength.cls ≠ "java/lang/invoke/VarHandle" ∧ (parseMethodDescriptor y_Ar_checkLength.desc).map (fun d => d.parameters.length) = some 2 := by decide +kernel
theorem kd_To_init : y_To_init.cls ≠ "java/lang/invoke/MethodHandle" ∧ y_To_init.cls ≠ "java/lang/invoke/VarHandle" ∧ (parseMethodDescriptor y_To_init.desc).map (fun d => d.parameters.length) = some 3 := by decide +kernel
theorem kd_HR_drop : y_HR_drop.cls ≠ "java/lang/invoke/MethodHandle" ∧ y_HR_drop.cls ≠ "java/lang/invoke/VarHandle" ∧ (parseMethodDescriptor y_HR_drop.desc).map (fun d => d.parameters.length) = some 1 := by decide +kernel
theorem kd_AL_remove : y_AL_remove.cls ≠ "java/lang/invoke/MethodHandle" ∧ y_AL_remove.cls ≠ "java/lang/invoke/VarHandle" ∧ (parseMethodDescriptor y_AL_remove.desc).map (fun d => d.parameters.length) = some 1 := by decide +kernel
theorem kd_AL_fastRemove : y_AL_fastRemove.cls ≠ "java/lang/invoke/MethodHandle" ∧ y_AL_fastRemove.cls ≠ "java/lang/invoke/VarHandle" ∧ (parseMethodDescriptor y_AL_fastRemove.desc).map (fun d => d.parameters.length) = some 2 := by decide +kernel
theorem kd_HR_run : y_HR_run.cls ≠ "java/lang/invoke/MethodHandle" ∧ y_HR_run.cls ≠ "java/lang/invoke/VarHandle" ∧ (parseMethodDescriptor y_HR_run.desc).map (fun d => d.parameters.length) = some 1 := by decide +kernel
theorem kd_HR_staysWhole : y_HR_staysWhole.cls ≠ "java/lang/invoke/MethodHandle" ∧ y_HR_staysWhole.cls ≠ "java/lang/invoke/VarHandle" ∧ (parseMethodDescriptor y_HR_staysWhole.desc).map (fun d => d.parameters.length) = some 1 := by decide +kernel
theorem kd_HR_findRowDigits : y_HR_findRowDigits.cls ≠ "java/lang/invoke/MethodHandle" ∧ y_HR_findRowDigits.cls ≠ "java/lang/invoke/VarHandle" ∧ (parseMethodDescriptor y_HR_findRowDigits.desc).map (fun d => d.parameters.length) = some 1 := by decide +kernel
theorem kd_Ar_fill : y_Ar_fill.cls ≠ "java/lang/invoke/MethodHandle" ∧ y_Ar_fill.cls ≠ "java/lang/invoke/VarHandle" ∧ (parseMethodDescriptor y_Ar_fill.desc).map (fun d => d.parameters.length) = some 2 := by decide +kernel
theorem kd_HR_takeToldPlaces : y_HR_takeToldPlaces.cls ≠ "java/lang/invoke/MethodHandle" ∧ y_HR_takeToldPlaces.cls ≠ "java/lang/invoke/VarHandle" ∧ (parseMethodDescriptor y_HR_takeToldPlaces.desc).map (fun d => d.parameters.length) = some 1 := by decide +kernel
theorem kd_HR_layOverRow : y_HR_layOverRow.cls ≠ "java/lang/invoke/MethodHandle" ∧ y_HR_layOverRow.cls ≠ "java/lang/invoke/VarHandle" ∧ (parseMethodDescriptor y_HR_layOverRow.desc).map (fun d => d.parameters.length) = some 1 := by decide +kernel
theorem kd_HR_raiseDigits : y_HR_raiseDigits.cls ≠ "java/lang/invoke/MethodHandle" ∧ y_HR_raiseDigits.cls ≠ "java/lang/invoke/VarHandle" ∧ (parseMethodDescriptor y_HR_raiseDigits.desc).map (fun d => d.parameters.length) = some 2 := by decide +kernel
theorem kd_HR_at : y_HR_at.cls ≠ "java/lang/invoke/MethodHandle" ∧ y_HR_at.cls ≠ "java/lang/invoke/VarHandle" ∧ (parseMethodDescriptor y_HR_at.desc).map (fun d => d.parameters.length) = some 1 := by decide +kernel
theorem kd_HR_digit : y_HR_digit.cls ≠ "java/lang/invoke/MethodHandle" ∧ y_HR_digit.cls ≠ "java/lang/invoke/VarHandle" ∧ (parseMethodDescriptor y_HR_digit.desc).map (fun d => d.parameters.length) = some 2 := by decide +kernel
theorem kd_HR_patterns : y_HR_patterns.cls ≠ "java/lang/invoke/MethodHandle" ∧ y_HR_patterns.cls ≠ "java/lang/invoke/VarHandle" ∧ (parseMethodDescriptor y_HR_patterns.desc).map (fun d => d.parameters.length) = some 0 := by decide +kernel
theorem kd_HR_exceptions : y_HR_exceptions.cls ≠ "java/lang/invoke/MethodHandle" ∧ y_HR_exceptions.cls ≠ "java/lang/invoke/VarHandle" ∧ (parseMethodDescriptor y_HR_exceptions.desc).map (fun d => d.parameters.length) = some 0 := by decide +kernel
theorem kd_Mo_init : y_Mo_init.cls ≠ "java/lang/invoke/MethodHandle" ∧ y_Mo_init.cls ≠ "java/lang/invoke/VarHandle" ∧ (parseMethodDescriptor y_Mo_init.desc).map (fun d => d.parameters.length) = some 0 := by decide +kernel
theorem kd_Mo_language : y_Mo_language.cls ≠ "java/lang/invoke/MethodHandle" ∧ y_Mo_language.cls ≠ "java/lang/invoke/VarHandle" ∧ (parseMethodDescriptor y_Mo_language.desc).map (fun d => d.parameters.length) = some 0 := by decide +kernel
theorem kd_Mo_code : y_Mo_code.cls ≠ "java/lang/invoke/MethodHandle" ∧ y_Mo_code.cls ≠ "java/lang/invoke/VarHandle" ∧ (parseMethodDescriptor y_Mo_code.desc).map (fun d => d.parameters.length) = some 4 := by decide +kernel
theorem kd_Mo_isLanguage : y_Mo_isLanguage.cls ≠ "java/lang/invoke/MethodHandle" ∧ y_Mo_isLanguage.cls ≠ "java/lang/invoke/VarHandle" ∧ (parseMethodDescriptor y_Mo_isLanguage.desc).map (fun d => d.parameters.length) = some 1 := by decide +kernel
theorem kd_Mo_in : y_Mo_in.cls ≠ "java/lang/invoke/MethodHandle" ∧ y_Mo_in.cls ≠ "java/lang/invoke/VarHandle" ∧ (parseMethodDescriptor y_Mo_in.desc).map (fun d => d.parameters.length) = some 3 := by decide +kernel
theorem kd_Mo_ends : y_Mo_ends.cls ≠ "java/lang/invoke/MethodHandle" ∧ y_Mo_ends.cls ≠ "java/lang/invoke/VarHandle" ∧ (parseMethodDescriptor y_Mo_ends.desc).map (fun d => d.parameters.length) = some 4 := by decide +kernel
theorem kd_Mo_next : y_Mo_next.cls ≠ "java/lang/invoke/MethodHandle" ∧ y_Mo_next.cls ≠ "java/lang/invoke/VarHandle" ∧ (parseMethodDescriptor y_Mo_next.desc).map (fun d => d.parameters.length) = some 2 := by decide +kernel
theorem kd_Mo_pattern : y_Mo_pattern.cls ≠ "java/lang/invoke/MethodHandle" ∧ y_Mo_pattern.cls ≠ "java/lang/invoke/VarHandle" ∧ (parseMethodDescriptor y_Mo_pattern.desc).map (fun d => d.parameters.length) = some 2 := by decide +kernel
theorem kd_Mo_isSame : y_Mo_isSame.cls ≠ "java/lang/invoke/MethodHandle" ∧ y_Mo_isSame.cls ≠ "java/lang/invoke/VarHandle" ∧ (parseMethodDescriptor y_Mo_isSame.desc).map (fun d => d.parameters.length) = some 2 := by decide +kernel
theorem kd_Mo_isPattern : y_Mo_isPattern.cls ≠ "java/lang/invoke/MethodHandle" ∧ y_Mo_isPattern.cls ≠ "java/lang/invoke/VarHandle" ∧ (parseMethodDescriptor y_Mo_isPattern.desc).map (fun d => d.parameters.length) = some 0 := by decide +kernel
theorem kd_Mo_sign : y_Mo_sign.cls ≠ "java/lang/invoke/MethodHandle" ∧ y_Mo_sign.cls ≠ "java/lang/invoke/VarHandle" ∧ (parseMethodDescriptor y_Mo_sign.desc).map (fun d => d.parameters.length) = some 1 := by decide +kernel
theorem kd_Mo_clear : y_Mo_clear.cls ≠ "java/lang/invoke/MethodHandle" ∧ y_Mo_clear.cls ≠ "java/lang/invoke/VarHandle" ∧ (parseMethodDescriptor y_Mo_clear.desc).map (fun d => d.parameters.length) = some 0 := by decide +kernel
theorem kd_Mo_exception : y_Mo_exception.cls ≠ "java/lang/invoke/MethodHandle" ∧ y_Mo_exception.cls ≠ "java/lang/invoke/VarHandle" ∧ (parseMethodDescriptor y_Mo_exception.desc).map (fun d => d.parameters.length) = some 2 := by decide +kernel
theorem kd_Mo_spell : y_Mo_spell.cls ≠ "java/lang/invoke/MethodHandle" ∧ y_Mo_spell.cls ≠ "java/lang/invoke/VarHandle" ∧ (parseMethodDescriptor y_Mo_spell.desc).map (fun d => d.parameters.length) = some 1 := by decide +kernel
theorem kd_Mo_exceptionOf : y_Mo_exceptionOf.cls ≠ "java/lang/invoke/MethodHandle" ∧ y_Mo_exceptionOf.cls ≠ "java/lang/invoke/VarHandle" ∧ (parseMethodDescriptor y_Mo_exceptionOf.desc).map (fun d => d.parameters.length) = some 1 := by decide +kernel
theorem kd_Mo_drop : y_Mo_drop.cls ≠ "java/lang/invoke/MethodHandle" ∧ y_Mo_drop.cls ≠ "java/lang/invoke/VarHandle" ∧ (parseMethodDescriptor y_Mo_drop.desc).map (fun d => d.parameters.length) = some 1 := by decide +kernel
theorem kd_Mo_run : y_Mo_run.cls ≠ "java/lang/invoke/MethodHandle" ∧ y_Mo_run.cls ≠ "java/lang/invoke/VarHandle" ∧ (parseMethodDescriptor y_Mo_run.desc).map (fun d => d.parameters.length) = some 1 := by decide +kernel
theorem kd_Mo_digitOf : y_Mo_digitOf.cls ≠ "java/lang/invoke/MethodHandle" ∧ y_Mo_digitOf.cls ≠ "java/lang/invoke/VarHandle" ∧ (parseMethodDescriptor y_Mo_digitOf.desc).map (fun d => d.parameters.length) = some 2 := by decide +kernel
theorem kd_Mo_stands : y_Mo_stands.cls ≠ "java/lang/invoke/MethodHandle" ∧ y_Mo_stands.cls ≠ "java/lang/invoke/VarHandle" ∧ (parseMethodDescriptor y_Mo_stands.desc).map (fun d => d.parameters.length) = some 2 := by decide +kernel
theorem kd_Mo_at : y_Mo_at.cls ≠ "java/lang/invoke/MethodHandle" ∧ y_Mo_at.cls ≠ "java/lang/invoke/VarHandle" ∧ (parseMethodDescriptor y_Mo_at.desc).map (fun d => d.parameters.length) = some 1 := by decide +kernel
theorem kd_Mo_digit : y_Mo_digit.cls ≠ "java/lang/invoke/MethodHandle" ∧ y_Mo_digit.cls ≠ "java/lang/invoke/VarHandle" ∧ (parseMethodDescriptor y_Mo_digit.desc).map (fun d => d.parameters.length) = some 2 := by decide +kernel
theorem kd_Mo_patterns : y_Mo_patterns.cls ≠ "java/lang/invoke/MethodHandle" ∧ y_Mo_patterns.cls ≠ "java/lang/invoke/VarHandle" ∧ (parseMethodDescriptor y_Mo_patterns.desc).map (fun d => d.parameters.length) = some 0 := by decide +kernel
theorem kd_Mo_exceptions : y_Mo_exceptions.cls ≠ "java/lang/invoke/MethodHandle" ∧ y_Mo_exceptions.cls ≠ "java/lang/invoke/VarHandle" ∧ (parseMethodDescriptor y_Mo_exceptions.desc).map (fun d => d.parameters.length) = some 0 := by decide +kernel
end
section
theorem d_AL_init_0 : decode b_AL_init 0 = .ok (.aload_n 0, 1) := by decide +kernel
theorem d_AL_init_1 : decode b_AL_init 1 = .ok (.invokespecial 1, 3) := by decide +kernel
theorem d_AL_init_4 : decode b_AL_init 4 = .ok (.aload_n 0, 1) := by decide +kernel
theorem d_AL_init_5 : decode b_AL_init 5 = .ok (.getstatic 39, 3) := by decide +kernel
theorem d_AL_init_8 : decode b_AL_init 8 = .ok (.putfield 9, 3) := by decide +kernel
theorem d_AL_init_11 : decode b_AL_init 11 = .ok (.return_, 1) := by decide +kernel
theorem d_Ab_init_0 : decode b_Ab_init 0 = .ok (.aload_n 0, 1) := by decide +kernel
theorem d_Ab_init_1 : decode b_Ab_init 1 = .ok (.invokespecial 1, 3) := by decide +kernel
theorem d_Ab_init_4 : decode b_Ab_init 4 = .ok (.aload_n 0, 1) := by decide +kernel
theorem d_Ab_init_5 : decode b_Ab_init 5 = .ok (.iconst 0, 1) := by decide +kernel
theorem d_Ab_init_6 : decode b_Ab_init 6 = .ok (.putfield 7, 3) := by decide +kernel
theorem d_Ab_init_9 : decode b_Ab_init 9 = .ok (.return_, 1) := by decide +kernel
theorem d_Ac_init_0 : decode b_Ac_init 0 = .ok (.aload_n 0, 1) := by decide +kernel
theorem d_Ac_init_1 : decode b_Ac_init 1 = .ok (.invokespecial 1, 3) := by decide +kernel
theorem d_Ac_init_4 : decode b_Ac_init 4 = .ok (.return_, 1) := by decide +kernel
theorem d_AL_size_0 : decode b_AL_size 0 = .ok (.aload_n 0, 1) := by decide +kernel
theorem d_AL_size_1 : decode b_AL_size 1 = .ok (.getfield 48, 3) := by decide +kernel
theorem d_AL_size_4 : decode b_AL_size 4 = .ok (.ireturn, 1) := by decide +kernel
theorem d_AL_add1_0 : decode b_AL_add1 0 = .ok (.aload_n 0, 1) := by decide +kernel
theorem d_AL_add1_1 : decode b_AL_add1 1 = .ok (.dup, 1) := by decide +kernel
theorem d_AL_add1_2 : decode b_AL_add1 2 = .ok (.getfield 63, 3) := by decide +kernel
theorem d_AL_add1_5 : decode b_AL_add1 5 = .ok (.iconst 1, 1) := by decide +kernel
theorem d_AL_add1_6 : decode b_AL_add1 6 = .ok (.iadd, 1) := by decide +kernel
theorem d_AL_add1_7 : decode b_AL_add1 7 = .ok (.putfield 63, 3) := by decide +kernel
theorem d_AL_add1_10 : decode b_AL_add1 10 = .ok (.aload_n 0, 1) := by decide +kernel
theorem d_AL_add1_11 : decode b_AL_add1 11 = .ok (.aload_n 1, 1) := by decide +kernel
theorem d_AL_add1_12 : decode b_AL_add1 12 = .ok (.aload_n 0, 1) := by decide +kernel
theorem d_AL_add1_13 : decode b_AL_add1 13 = .ok (.getfield 9, 3) := by decide +kernel
theorem d_AL_add1_16 : decode b_AL_add1 16 = .ok (.aload_n 0, 1) := by decide +kernel
theorem d_AL_add1_17 : decode b_AL_add1 17 = .ok (.getfield 48, 3) := by decide +kernel
theorem d_AL_add1_20 : decode b_AL_add1 20 = .ok (.invokevirtual 131, 3) := by decide +kernel
theorem d_AL_add1_23 : decode b_AL_add1 23 = .ok (.iconst 1, 1) := by decide +kernel
theorem d_AL_add1_24 : decode b_AL_add1 24 = .ok (.ireturn, 1) := by decide +kernel
theorem d_AL_add3_0 : decode b_AL_add3 0 = .ok (.iload_n 3, 1) := by decide +kernel
theorem d_AL_add3_1 : decode b_AL_add3 1 = .ok (.aload_n 2, 1) := by decide +kernel
theorem d_AL_add3_2 : decode b_AL_add3 2 = .ok (.arraylength, 1) := by decide +kernel
theorem d_AL_add3_3 : decode b_AL_add3 3 = .ok (.if_icmp .ne 8, 3) := by decide +kernel
theorem d_AL_add3_6 : decode b_AL_add3 6 = .ok (.aload_n 0, 1) := by decide +kernel
theorem d_AL_add3_7 : decode b_AL_add3 7 = .ok (.invokevirtual 129, 3) := by decide +kernel
theorem d_AL_add3_10 : decode b_AL_add3 10 = .ok (.astore_n 2, 1) := by decide +kernel
theorem d_AL_add3_11 : decode b_AL_add3 11 = .ok (.aload_n 2, 1) := by decide +kernel
theorem d_AL_add3_12 : decode b_AL_add3 12 = .ok (.iload_n 3, 1) := by decide +kernel
theorem d_AL_add3_13 : decode b_AL_add3 13 = .ok (.aload_n 1, 1) := by decide +kernel
theorem d_AL_add3_14 : decode b_AL_add3 14 = .ok (.aastore, 1) := by decide +kernel
theorem d_AL_add3_15 : decode b_AL_add3 15 = .ok (.aload_n 0, 1) := by decide +kernel
theorem d_AL_add3_16 : decode b_AL_add3 16 = .ok (.iload_n 3, 1) := by decide +kernel
theorem d_AL_add3_17 : decode b_AL_add3 17 = .ok (.iconst 1, 1) := by decide +kernel
theorem d_AL_add3_18 : decode b_AL_add3 18 = .ok (.iadd, 1) := by decide +kernel
theorem d_AL_add3_19 : decode b_AL_add3 19 = .ok (.putfield 48, 3) := by decide +kernel
theorem d_AL_add3_22 : decode b_AL_add3 22 = .ok (.return_, 1) := by decide +kernel
theorem d_AL_grow0_0 : decode b_AL_grow0 0 = .ok (.aload_n 0, 1) := by decide +kernel
theorem d_AL_grow0_1 : decode b_AL_grow0 1 = .ok (.aload_n 0, 1) := by decide +kernel
theorem d_AL_grow0_2 : decode b_AL_grow0 2 = .ok (.getfield 48, 3) := by decide +kernel
theorem d_AL_grow0_5 : decode b_AL_grow0 5 = .ok (.iconst 1, 1) := by decide +kernel
theorem d_AL_grow0_6 : decode b_AL_grow0 6 = .ok (.iadd, 1) := by decide +kernel
theorem d_AL_grow0_7 : decode b_AL_grow0 7 = .ok (.invokevirtual 69, 3) := by decide +kernel
theorem d_AL_grow0_10 : decode b_AL_grow0 10 = .ok (.areturn, 1) := by decide +kernel
theorem d_AL_grow1_0 : decode b_AL_grow1 0 = .ok (.aload_n 0, 1) := by decide +kernel
theorem d_AL_grow1_1 : decode b_AL_grow1 1 = .ok (.getfield 9, 3) := by decide +kernel
theorem d_AL_grow1_4 : decode b_AL_grow1 4 = .ok (.arraylength, 1) := by decide +kernel
theorem d_AL_grow1_5 : decode b_AL_grow1 5 = .ok (.istore_n 2, 1) := by decide +kernel
theorem d_AL_grow1_6 : decode b_AL_grow1 6 = .ok (.iload_n 2, 1) := by decide +kernel
theorem d_AL_grow1_7 : decode b_AL_grow1 7 = .ok (.ifCond .gt 13, 3) := by decide +kernel
theorem d_AL_grow1_10 : decode b_AL_grow1 10 = .ok (.aload_n 0, 1) := by decide +kernel
theorem d_AL_grow1_11 : decode b_AL_grow1 11 = .ok (.getfield 9, 3) := by decide +kernel
theorem d_AL_grow1_14 : decode b_AL_grow1 14 = .ok (.getstatic 39, 3) := by decide +kernel
theorem d_AL_grow1_17 : decode b_AL_grow1 17 = .ok (.if_acmp .eq 28, 3) := by decide +kernel
theorem d_AL_grow1_20 : decode b_AL_grow1 20 = .ok (.iload_n 2, 1) := by decide +kernel
theorem d_AL_grow1_21 : decode b_AL_grow1 21 = .ok (.iload_n 1, 1) := by decide +kernel
theorem d_AL_grow1_22 : decode b_AL_grow1 22 = .ok (.iload_n 2, 1) := by decide +kernel
theorem d_AL_grow1_23 : decode b_AL_grow1 23 = .ok (.isub, 1) := by decide +kernel
theorem d_AL_grow1_24 : decode b_AL_grow1 24 = .ok (.iload_n 2, 1) := by decide +kernel
theorem d_AL_grow1_25 : decode b_AL_grow1 25 = .ok (.iconst 1, 1) := by decide +kernel
theorem d_AL_grow1_26 : decode b_AL_grow1 26 = .ok (.ishr, 1) := by decide +kernel
theorem d_AL_grow1_27 : decode b_AL_grow1 27 = .ok (.invokestatic 73, 3) := by decide +kernel
theorem d_AL_grow1_30 : decode b_AL_grow1 30 = .ok (.istore_n 3, 1) := by decide +kernel
theorem d_AL_grow1_31 : decode b_AL_grow1 31 = .ok (.aload_n 0, 1) := by decide +kernel
theorem d_AL_grow1_32 : decode b_AL_grow1 32 = .ok (.aload_n 0, 1) := by decide +kernel
theorem d_AL_grow1_33 : decode b_AL_grow1 33 = .ok (.getfield 9, 3) := by decide +kernel
theorem d_AL_grow1_36 : decode b_AL_grow1 36 = .ok (.iload_n 3, 1) := by decide +kernel
theorem d_AL_grow1_37 : decode b_AL_grow1 37 = .ok (.invokestatic 66, 3) := by decide +kernel
theorem d_AL_grow1_40 : decode b_AL_grow1 40 = .ok (.dup_x1, 1) := by decide +kernel
theorem d_AL_grow1_41 : decode b_AL_grow1 41 = .ok (.putfield 9, 3) := by decide +kernel
theorem d_AL_grow1_44 : decode b_AL_grow1 44 = .ok (.areturn, 1) := by decide +kernel
theorem d_AL_grow1_45 : decode b_AL_grow1 45 = .ok (.aload_n 0, 1) := by decide +kernel
theorem d_AL_grow1_46 : decode b_AL_grow1 46 = .ok (.bipush 10, 2) := by decide +kernel
theorem d_AL_grow1_48 : decode b_AL_grow1 48 = .ok (.iload_n 1, 1) := by decide +kernel
theorem d_AL_grow1_49 : decode b_AL_grow1 49 = .ok (.invokestatic 79, 3) := by decide +kernel
theorem d_AL_grow1_52 : decode b_AL_grow1 52 = .ok (.anewarray 7, 3) := by decide +kernel
theorem d_AL_grow1_55 : decode b_AL_grow1 55 = .ok (.dup_x1, 1) := by decide +kernel
theorem d_AL_grow1_56 : decode b_AL_grow1 56 = .ok (.putfield 9, 3) := by decide +kernel
theorem d_AL_grow1_59 : decode b_AL_grow1 59 = .ok (.areturn, 1) := by decide +kernel
theorem d_As_newLength_0 : decode b_As_newLength 0 = .ok (.iload_n 0, 1) := by decide +kernel
theorem d_As_newLength_1 : decode b_As_newLength 1 = .ok (.iload_n 1, 1) := by decide +kernel
theorem d_As_newLength_2 : decode b_As_newLength 2 = .ok (.iload_n 2, 1) := by decide +kernel
theorem d_As_newLength_3 : decode b_As_newLength 3 = .ok (.invokestatic 194, 3) := by decide +kernel
theorem d_As_newLength_6 : decode b_As_newLength 6 = .ok (.iadd, 1) := by decide +kernel
theorem d_As_newLength_7 : decode b_As_newLength 7 = .ok (.istore_n 3, 1) := by decide +kernel
theorem d_As_newLength_8 : decode b_As_newLength 8 = .ok (.iconst 0, 1) := by decide +kernel
theorem d_As_newLength_9 : decode b_As_newLength 9 = .ok (.iload_n 3, 1) := by decide +kernel
theorem d_As_newLength_10 : decode b_As_newLength 10 = .ok (.if_icmp .ge 11, 3) := by decide +kernel
theorem d_As_newLength_13 : decode b_As_newLength 13 = .ok (.iload_n 3, 1) := by decide +kernel
theorem d_As_newLength_14 : decode b_As_newLength 14 = .ok (.ldc 200, 2) := by decide +kernel
theorem d_As_newLength_16 : decode b_As_newLength 16 = .ok (.if_icmp .gt 5, 3) := by decide +kernel
theorem d_As_newLength_19 : decode b_As_newLength 19 = .ok (.iload_n 3, 1) := by decide +kernel
theorem d_As_newLength_20 : decode b_As_newLength 20 = .ok (.ireturn, 1) := by decide +kernel
theorem d_As_newLength_21 : decode b_As_newLength 21 = .ok (.iload_n 0, 1) := by decide +kernel
theorem d_As_newLength_22 : decode b_As_newLength 22 = .ok (.iload_n 1, 1) := by decide +kernel
theorem d_As_newLength_23 : decode b_As_newLength 23 = .ok (.invokestatic 201, 3) := by decide +kernel
theorem d_As_newLength_26 : decode b_As_newLength 26 = .ok (.ireturn, 1) := by decide +kernel
theorem d_Ma_max_0 : decode b_Ma_max 0 = .ok (.iload_n 0, 1) := by decide +kernel
theorem d_Ma_max_1 : decode b_Ma_max 1 = .ok (.iload_n 1, 1) := by decide +kernel
theorem d_Ma_max_2 : decode b_Ma_max 2 = .ok (.if_icmp .lt 7, 3) := by decide +kernel
theorem d_Ma_max_5 : decode b_Ma_max 5 = .ok (.iload_n 0, 1) := by decide +kernel
theorem d_Ma_max_6 : decode b_Ma_max 6 = .ok (.goto 4, 3) := by decide +kernel
theorem d_Ma_max_9 : decode b_Ma_max 9 = .ok (.iload_n 1, 1) := by decide +kernel
theorem d_Ma_max_10 : decode b_Ma_max 10 = .ok (.ireturn, 1) := by decide +kernel
theorem d_As_hugeLength_0 : decode b_As_hugeLength 0 = .ok (.iload_n 0, 1) := by decide +kernel
theorem d_As_hugeLength_1 : decode b_As_hugeLength 1 = .ok (.iload_n 1, 1) := by decide +kernel
theorem d_As_hugeLength_2 : decode b_As_hugeLength 2 = .ok (.iadd, 1) := by decide +kernel
theorem d_As_hugeLength_3 : decode b_As_hugeLength 3 = .ok (.istore_n 2, 1) := by decide +kernel
theorem d_As_hugeLength_4 : decode b_As_hugeLength 4 = .ok (.iload_n 2, 1) := by decide +kernel
theorem d_As_hugeLength_5 : decode b_As_hugeLength 5 = .ok (.ifCond .ge 44, 3) := by decide +kernel
theorem d_As_hugeLength_8 : decode b_As_hugeLength 8 = .ok (.new 204, 3) := by decide +kernel
theorem d_As_hugeLength_11 : decode b_As_hugeLength 11 = .ok (.dup, 1) := by decide +kernel
theorem d_As_hugeLength_12 : decode b_As_hugeLength 12 = .ok (.new 89, 3) := by decide +kernel
theorem d_As_hugeLength_15 : decode b_As_hugeLength 15 = .ok (.dup, 1) := by decide +kernel
theorem d_As_hugeLength_16 : decode b_As_hugeLength 16 = .ok (.invokespecial 91, 3) := by decide +kernel
theorem d_As_hugeLength_19 : decode b_As_hugeLength 19 = .ok (.ldc 206, 2) := by decide +kernel
theorem d_As_hugeLength_21 : decode b_As_hugeLength 21 = .ok (.invokevirtual 94, 3) := by decide +kernel
theorem d_As_hugeLength_24 : decode b_As_hugeLength 24 = .ok (.iload_n 0, 1) := by decide +kernel
theorem d_As_hugeLength_25 : decode b_As_hugeLength 25 = .ok (.invokevirtual 98, 3) := by decide +kernel
theorem d_As_hugeLength_28 : decode b_As_hugeLength 28 = .ok (.ldc 208, 2) := by decide +kernel
theorem d_As_hugeLength_30 : decode b_As_hugeLength 30 = .ok (.invokevirtual 94, 3) := by decide +kernel
theorem d_As_hugeLength_33 : decode b_As_hugeLength 33 = .ok (.iload_n 1, 1) := by decide +kernel
theorem d_As_hugeLength_34 : decode b_As_hugeLength 34 = .ok (.invokevirtual 98, 3) := by decide +kernel
theorem d_As_hugeLength_37 : decode b_As_hugeLength 37 = .ok (.ldc 210, 2) := by decide +kernel
theorem d_As_hugeLength_39 : decode b_As_hugeLength 39 = .ok (.invokevirtual 94, 3) := by decide +kernel
theorem d_As_hugeLength_42 : decode b_As_hugeLength 42 = .ok (.invokevirtual 101, 3) := by decide +kernel
theorem d_As_hugeLength_45 : decode b_As_hugeLength 45 = .ok (.invokespecial 212, 3) := by decide +kernel
theorem d_As_hugeLength_49 : decode b_As_hugeLength 49 = .ok (.iload_n 2, 1) := by decide +kernel
theorem d_As_hugeLength_50 : decode b_As_hugeLength 50 = .ok (.ldc 200, 2) := by decide +kernel
theorem d_As_hugeLength_52 : decode b_As_hugeLength 52 = .ok (.if_icmp .gt 6, 3) := by decide +kernel
theorem d_As_hugeLength_55 : decode b_As_hugeLength 55 = .ok (.ldc 200, 2) := by decide +kernel
theorem d_As_hugeLength_57 : decode b_As_hugeLength 57 = .ok (.ireturn, 1) := by decide +kernel
theorem d_As_hugeLength_58 : decode b_As_hugeLength 58 = .ok (.iload_n 2, 1) := by decide +kernel
theorem d_As_hugeLength_59 : decode b_As_hugeLength 59 = .ok (.ireturn, 1) := by decide +kernel
theorem d_Ar_copyOf2_0 : decode b_Ar_copyOf2 0 = .ok (.aload_n 0, 1) := by decide +kernel
theorem d_Ar_copyOf2_1 : decode b_Ar_copyOf2 1 = .ok (.iload_n 1, 1) := by decide +kernel
theorem d_Ar_copyOf2_2 : decode b_Ar_copyOf2 2 = .ok (.aload_n 0, 1) := by decide +kernel
theorem d_Ar_copyOf2_3 : decode b_Ar_copyOf2 3 = .ok (.invokevirtual 86, 3) := by decide +kernel
theorem d_Ar_copyOf2_6 : decode b_Ar_copyOf2 6 = .ok (.invokestatic 300, 3) := by decide +kernel
theorem d_Ar_copyOf2_9 : decode b_Ar_copyOf2 9 = .ok (.areturn, 1) := by decide +kernel
theorem d_Ar_copyOf3_0 : decode b_Ar_copyOf3 0 = .ok (.aload_n 2, 1) := by decide +kernel
theorem d_Ar_copyOf3_1 : decode b_Ar_copyOf3 1 = .ok (.ldc 110, 2) := by decide +kernel
theorem d_Ar_copyOf3_3 : decode b_Ar_copyOf3 3 = .ok (.if_acmp .ne 10, 3) := by decide +kernel
theorem d_Ar_copyOf3_6 : decode b_Ar_copyOf3 6 = .ok (.iload_n 1, 1) := by decide +kernel
theorem d_Ar_copyOf3_7 : decode b_Ar_copyOf3 7 = .ok (.anewarray 2, 3) := by decide +kernel
theorem d_Ar_copyOf3_10 : decode b_Ar_copyOf3 10 = .ok (.goto 14, 3) := by decide +kernel
theorem d_Ar_copyOf3_13 : decode b_Ar_copyOf3 13 = .ok (.aload_n 2, 1) := by decide +kernel
theorem d_Ar_copyOf3_14 : decode b_Ar_copyOf3 14 = .ok (.invokevirtual 90, 3) := by decide +kernel
theorem d_Ar_copyOf3_17 : decode b_Ar_copyOf3 17 = .ok (.iload_n 1, 1) := by decide +kernel
theorem d_Ar_copyOf3_18 : decode b_Ar_copyOf3 18 = .ok (.invokestatic 95, 3) := by decide +kernel
theorem d_Ar_copyOf3_21 : decode b_Ar_copyOf3 21 = .ok (.checkcast 110, 3) := by decide +kernel
theorem d_Ar_copyOf3_24 : decode b_Ar_copyOf3 24 = .ok (.astore_n 3, 1) := by decide +kernel
theorem d_Ar_copyOf3_25 : decode b_Ar_copyOf3 25 = .ok (.aload_n 0, 1) := by decide +kernel
theorem d_Ar_copyOf3_26 : decode b_Ar_copyOf3 26 = .ok (.iconst 0, 1) := by decide +kernel
theorem d_Ar_copyOf3_27 : decode b_Ar_copyOf3 27 = .ok (.aload_n 3, 1) := by decide +kernel
theorem d_Ar_copyOf3_28 : decode b_Ar_copyOf3 28 = .ok (.iconst 0, 1) := by decide +kernel
theorem d_Ar_copyOf3_29 : decode b_Ar_copyOf3 29 = .ok (.aload_n 0, 1) := by decide +kernel
theorem d_Ar_copyOf3_30 : decode b_Ar_copyOf3 30 = .ok (.arraylength, 1) := by decide +kernel
theorem d_Ar_copyOf3_31 : decode b_Ar_copyOf3 31 = .ok (.iload_n 1, 1) := by decide +kernel
theorem d_Ar_copyOf3_32 : decode b_Ar_copyOf3 32 = .ok (.invokestatic 304, 3) := by decide +kernel
theorem d_Ar_copyOf3_35 : decode b_Ar_copyOf3 35 = .ok (.invokestatic 150, 3) := by decide +kernel
theorem d_Ar_copyOf3_38 : decode b_Ar_copyOf3 38 = .ok (.aload_n 3, 1) := by decide +kernel
theorem d_Ar_copyOf3_39 : decode b_Ar_copyOf3 39 = .ok (.areturn, 1) := by decide +kernel
theorem d_Ma_min_0 : decode b_Ma_min 0 = .ok (.iload_n 0, 1) := by decide +kernel
theorem d_Ma_min_1 : decode b_Ma_min 1 = .ok (.iload_n 1, 1) := by decide +kernel
theorem d_Ma_min_2 : decode b_Ma_min 2 = .ok (.if_icmp .gt 7, 3) := by decide +kernel
theorem d_Ma_min_5 : decode b_Ma_min 5 = .ok (.iload_n 0, 1) := by decide +kernel
theorem d_Ma_min_6 : decode b_Ma_min 6 = .ok (.goto 4, 3) := by decide +kernel
theorem d_Ma_min_9 : decode b_Ma_min 9 = .ok (.iload_n 1, 1) := by decide +kernel
theorem d_Ma_min_10 : decode b_Ma_min 10 = .ok (.ireturn, 1) := by decide +kernel
theorem d_AL_get_0 : decode b_AL_get 0 = .ok (.iload_n 1, 1) := by decide +kernel
theorem d_AL_get_1 : decode b_AL_get 1 = .ok (.aload_n 0, 1) := by decide +kernel
theorem d_AL_get_2 : decode b_AL_get 2 = .ok (.getfield 48, 3) := by decide +kernel
theorem d_AL_get_5 : decode b_AL_get 5 = .ok (.invokestatic 118, 3) := by decide +kernel
theorem d_AL_get_8 : decode b_AL_get 8 = .ok (.pop, 1) := by decide +kernel
theorem d_AL_get_9 : decode b_AL_get 9 = .ok (.aload_n 0, 1) := by decide +kernel
theorem d_AL_get_10 : decode b_AL_get 10 = .ok (.iload_n 1, 1) := by decide +kernel
theorem d_AL_get_11 : decode b_AL_get 11 = .ok (.invokevirtual 123, 3) := by decide +kernel
theorem d_AL_get_14 : decode b_AL_get 14 = .ok (.areturn, 1) := by decide +kernel
theorem d_Ob_checkIndex_0 : decode b_Ob_checkIndex 0 = .ok (.iload_n 0, 1) := by decide +kernel
theorem d_Ob_checkIndex_1 : decode b_Ob_checkIndex 1 = .ok (.iload_n 1, 1) := by decide +kernel
theorem d_Ob_checkIndex_2 : decode b_Ob_checkIndex 2 = .ok (.aconst_null, 1) := by decide +kernel
theorem d_Ob_checkIndex_3 : decode b_Ob_checkIndex 3 = .ok (.invokestatic 105, 3) := by decide +kernel
theorem d_Ob_checkIndex_6 : decode b_Ob_checkIndex 6 = .ok (.ireturn, 1) := by decide +kernel
theorem d_Pc_checkIndex_0 : decode b_Pc_checkIndex 0 = .ok (.iload_n 0, 1) := by decide +kernel
theorem d_Pc_checkIndex_1 : decode b_Pc_checkIndex 1 = .ok (.ifCond .lt 8, 3) := by decide +kernel
theorem d_Pc_checkIndex_4 : decode b_Pc_checkIndex 4 = .ok (.iload_n 0, 1) := by decide +kernel
theorem d_Pc_checkIndex_5 : decode b_Pc_checkIndex 5 = .ok (.iload_n 1, 1) := by decide +kernel
theorem d_Pc_checkIndex_6 : decode b_Pc_checkIndex 6 = .ok (.if_icmp .lt 10, 3) := by decide +kernel
theorem d_Pc_checkIndex_9 : decode b_Pc_checkIndex 9 = .ok (.aload_n 2, 1) := by decide +kernel
theorem d_Pc_checkIndex_10 : decode b_Pc_checkIndex 10 = .ok (.iload_n 0, 1) := by decide +kernel
theorem d_Pc_checkIndex_11 : decode b_Pc_checkIndex 11 = .ok (.iload_n 1, 1) := by decide +kernel
theorem d_Pc_checkIndex_12 : decode b_Pc_checkIndex 12 = .ok (.invokestatic 95, 3) := by decide +kernel
theorem d_Pc_checkIndex_16 : decode b_Pc_checkIndex 16 = .ok (.iload_n 0, 1) := by decide +kernel
theorem d_Pc_checkIndex_17 : decode b_Pc_checkIndex 17 = .ok (.ireturn, 1) := by decide +kernel
theorem d_AL_elementData_0 : decode b_AL_elementData 0 = .ok (.aload_n 0, 1) := by decide +kernel
theorem d_AL_elementData_1 : decode b_AL_elementData 1 = .ok (.getfield 9, 3) := by decide +kernel
theorem d_AL_elementData_4 : decode b_AL_elementData 4 = .ok (.iload_n 1, 1) := by decide +kernel
theorem d_AL_elementData_5 : decode b_AL_elementData 5 = .ok (.aaload, 1) := by decide +kernel
theorem d_AL_elementData_6 : decode b_AL_elementData 6 = .ok (.areturn, 1) := by decide +kernel
theorem d_Ar_copyOfI_0 : decode b_Ar_copyOfI 0 = .ok (.iload_n 1, 1) := by decide +kernel
theorem d_Ar_copyOfI_1 : decode b_Ar_copyOfI 1 = .ok (.aload_n 0, 1) := by decide +kernel
theorem d_Ar_copyOfI_2 : decode b_Ar_copyOfI 2 = .ok (.arraylength, 1) := by decide +kernel
theorem d_Ar_copyOfI_3 : decode b_Ar_copyOfI 3 = .ok (.if_icmp .ne 11, 3) := by decide +kernel
theorem d_Ar_copyOfI_6 : decode b_Ar_copyOfI 6 = .ok (.aload_n 0, 1) := by decide +kernel
theorem d_Ar_copyOfI_7 : decode b_Ar_copyOfI 7 = .ok (.invokevirtual 316, 3) := by decide +kernel
theorem d_Ar_copyOfI_10 : decode b_Ar_copyOfI 10 = .ok (.checkcast 317, 3) := by decide +kernel
theorem d_Ar_copyOfI_13 : decode b_Ar_copyOfI 13 = .ok (.areturn, 1) := by decide +kernel
theorem d_Ar_copyOfI_14 : decode b_Ar_copyOfI 14 = .ok (.iload_n 1, 1) := by decide +kernel
theorem d_Ar_copyOfI_15 : decode b_Ar_copyOfI 15 = .ok (.newarray .int, 2) := by decide +kernel
theorem d_Ar_copyOfI_17 : decode b_Ar_copyOfI 17 = .ok (.astore_n 2, 1) := by decide +kernel
theorem d_Ar_copyOfI_18 : decode b_Ar_copyOfI 18 = .ok (.aload_n 0, 1) := by decide +kernel
theorem d_Ar_copyOfI_19 : decode b_Ar_copyOfI 19 = .ok (.iconst 0, 1) := by decide +kernel
theorem d_Ar_copyOfI_20 : decode b_Ar_copyOfI 20 = .ok (.aload_n 2, 1) := by decide +kernel
theorem d_Ar_copyOfI_21 : decode b_Ar_copyOfI 21 = .ok (.iconst 0, 1) := by decide +kernel
theorem d_Ar_copyOfI_22 : decode b_Ar_copyOfI 22 = .ok (.aload_n 0, 1) := by decide +kernel
theorem d_Ar_copyOfI_23 : decode b_Ar_copyOfI 23 = .ok (.arraylength, 1) := by decide +kernel
theorem d_Ar_copyOfI_24 : decode b_Ar_copyOfI 24 = .ok (.iload_n 1, 1) := by decide +kernel
theorem d_Ar_copyOfI_25 : decode b_Ar_copyOfI 25 = .ok (.invokestatic 304, 3) := by decide +kernel
theorem d_Ar_copyOfI_28 : decode b_Ar_copyOfI 28 = .ok (.invokestatic 150, 3) := by decide +kernel
theorem d_Ar_copyOfI_31 : decode b_Ar_copyOfI 31 = .ok (.aload_n 2, 1) := by decide +kernel
theorem d_Ar_copyOfI_32 : decode b_Ar_copyOfI 32 = .ok (.areturn, 1) := by decide +kernel
theorem d_Ar_copyOfRange_0 : decode b_Ar_copyOfRange 0 = .ok (.iload_n 1, 1) := by decide +kernel
theorem d_Ar_copyOfRange_1 : decode b_Ar_copyOfRange 1 = .ok (.ifCond .ne 9, 3) := by decide +kernel
theorem d_Ar_copyOfRange_4 : decode b_Ar_copyOfRange 4 = .ok (.iload_n 2, 1) := by decide +kernel
theorem d_Ar_copyOfRange_5 : decode b_Ar_copyOfRange 5 = .ok (.aload_n 0, 1) := by decide +kernel
theorem d_Ar_copyOfRange_6 : decode b_Ar_copyOfRange 6 = .ok (.arraylength, 1) := by decide +kernel
theorem d_Ar_copyOfRange_7 : decode b_Ar_copyOfRange 7 = .ok (.if_icmp .eq 10, 3) := by decide +kernel
theorem d_Ar_copyOfRange_10 : decode b_Ar_copyOfRange 10 = .ok (.aload_n 0, 1) := by decide +kernel
theorem d_Ar_copyOfRange_11 : decode b_Ar_copyOfRange 11 = .ok (.iload_n 1, 1) := by decide +kernel
theorem d_Ar_copyOfRange_12 : decode b_Ar_copyOfRange 12 = .ok (.iload_n 2, 1) := by decide +kernel
theorem d_Ar_copyOfRange_13 : decode b_Ar_copyOfRange 13 = .ok (.invokestatic 351, 3) := by decide +kernel
theorem d_Ar_copyOfRange_16 : decode b_Ar_copyOfRange 16 = .ok (.areturn, 1) := by decide +kernel
theorem d_Ar_copyOfRange_17 : decode b_Ar_copyOfRange 17 = .ok (.aload_n 0, 1) := by decide +kernel
theorem d_Ar_copyOfRange_18 : decode b_Ar_copyOfRange 18 = .ok (.invokevirtual 316, 3) := by decide +kernel
theorem d_Ar_copyOfRange_21 : decode b_Ar_copyOfRange 21 = .ok (.checkcast 317, 3) := by decide +kernel
theorem d_Ar_copyOfRange_24 : decode b_Ar_copyOfRange 24 = .ok (.areturn, 1) := by decide +kernel
theorem d_Ar_copyOfRangeInt_0 : decode b_Ar_copyOfRangeInt 0 = .ok (.iload_n 1, 1) := by decide +kernel
theorem d_Ar_copyOfRangeInt_1 : decode b_Ar_copyOfRangeInt 1 = .ok (.iload_n 2, 1) := by decide +kernel
theorem d_Ar_copyOfRangeInt_2 : decode b_Ar_copyOfRangeInt 2 = .ok (.invokestatic 343, 3) := by decide +kernel
theorem d_Ar_copyOfRangeInt_5 : decode b_Ar_copyOfRangeInt 5 = .ok (.iload_n 2, 1) := by decide +kernel
theorem d_Ar_copyOfRangeInt_6 : decode b_Ar_copyOfRangeInt 6 = .ok (.iload_n 1, 1) := by decide +kernel
theorem d_Ar_copyOfRangeInt_7 : decode b_Ar_copyOfRangeInt 7 = .ok (.isub, 1) := by decide +kernel
theorem d_Ar_copyOfRangeInt_8 : decode b_Ar_copyOfRangeInt 8 = .ok (.istore_n 3, 1) := by decide +kernel
theorem d_Ar_copyOfRangeInt_9 : decode b_Ar_copyOfRangeInt 9 = .ok (.iload_n 3, 1) := by decide +kernel
theorem d_Ar_copyOfRangeInt_10 : decode b_Ar_copyOfRangeInt 10 = .ok (.newarray .int, 2) := by decide +kernel
theorem d_Ar_copyOfRangeInt_12 : decode b_Ar_copyOfRangeInt 12 = .ok (.astore 4, 2) := by decide +kernel
theorem d_Ar_copyOfRangeInt_14 : decode b_Ar_copyOfRangeInt 14 = .ok (.aload_n 0, 1) := by decide +kernel
theorem d_Ar_copyOfRangeInt_15 : decode b_Ar_copyOfRangeInt 15 = .ok (.iload_n 1, 1) := by decide +kernel
theorem d_Ar_copyOfRangeInt_16 : decode b_Ar_copyOfRangeInt 16 = .ok (.aload 4, 2) := by decide +kernel
theorem d_Ar_copyOfRangeInt_18 : decode b_Ar_copyOfRangeInt 18 = .ok (.iconst 0, 1) := by decide +kernel
theorem d_Ar_copyOfRangeInt_19 : decode b_Ar_copyOfRangeInt 19 = .ok (.aload_n 0, 1) := by decide +kernel
theorem d_Ar_copyOfRangeInt_20 : decode b_Ar_copyOfRangeInt 20 = .ok (.arraylength, 1) := by decide +kernel
theorem d_Ar_copyOfRangeInt_21 : decode b_Ar_copyOfRangeInt 21 = .ok (.iload_n 1, 1) := by decide +kernel
theorem d_Ar_copyOfRangeInt_22 : decode b_Ar_copyOfRangeInt 22 = .ok (.isub, 1) := by decide +kernel
theorem d_Ar_copyOfRangeInt_23 : decode b_Ar_copyOfRangeInt 23 = .ok (.iload_n 3, 1) := by decide +kernel
theorem d_Ar_copyOfRangeInt_24 : decode b_Ar_copyOfRangeInt 24 = .ok (.invokestatic 304, 3) := by decide +kernel
theorem d_Ar_copyOfRangeInt_27 : decode b_Ar_copyOfRangeInt 27 = .ok (.invokestatic 150, 3) := by decide +kernel
theorem d_Ar_copyOfRangeInt_30 : decode b_Ar_copyOfRangeInt 30 = .ok (.aload 4, 2) := by decide +kernel
theorem d_Ar_copyOfRangeInt_32 : decode b_Ar_copyOfRangeInt 32 = .ok (.areturn, 1) := by decide +kernel
theorem d_Ar_checkLength_0 : decode b_Ar_checkLength 0 = .ok (.iload_n 1, 1) := by decide +kernel
theorem d_Ar_checkLength_1 : decode b_Ar_checkLength 1 = .ok (.iload_n 0, 1) := by decide +kernel
theorem d_Ar_checkLength_2 : decode b_Ar_checkLength 2 = .ok (.if_icmp .ge 35, 3) := by decide +kernel
theorem d_Ar_checkLength_5 : decode b_Ar_checkLength 5 = .ok (.new 43, 3) := by decide +kernel
theorem d_Ar_checkLength_8 : decode b_Ar_checkLength 8 = .ok (.dup, 1) := by decide +kernel
theorem d_Ar_checkLength_9 : decode b_Ar_checkLength 9 = .ok (.new 45, 3) := by decide +kernel
theorem d_Ar_checkLength_12 : decode b_Ar_checkLength 12 = .ok (.dup, 1) := by decide +kernel
theorem d_Ar_checkLength_13 : decode b_Ar_checkLength 13 = .ok (.invokespecial 47, 3) := by decide +kernel
theorem d_Ar_checkLength_16 : decode b_Ar_checkLength 16 = .ok (.iload_n 0, 1) := by decide +kernel
theorem d_Ar_checkLength_17 : decode b_Ar_checkLength 17 = .ok (.invokevirtual 54, 3) := by decide +kernel
theorem d_Ar_checkLength_20 : decode b_Ar_checkLength 20 = .ok (.ldc_w 337, 3) := by decide +kernel
theorem d_Ar_checkLength_23 : decode b_Ar_checkLength 23 = .ok (.invokevirtual 50, 3) := by decide +kernel
theorem d_Ar_checkLength_26 : decode b_Ar_checkLength 26 = .ok (.iload_n 1, 1) := by decide +kernel
theorem d_Ar_checkLength_27 : decode b_Ar_checkLength 27 = .ok (.invokevirtual 54, 3) := by decide +kernel
theorem d_Ar_checkLength_30 : decode b_Ar_checkLength 30 = .ok (.invokevirtual 61, 3) := by decide +kernel
theorem d_Ar_checkLength_33 : decode b_Ar_checkLength 33 = .ok (.invokespecial 65, 3) := by decide +kernel
theorem d_Ar_checkLength_37 : decode b_Ar_checkLength 37 = .ok (.return_, 1) := by decide +kernel
theorem d_AL_remove_0 : decode b_AL_remove 0 = .ok (.iload_n 1, 1) := by decide +kernel
theorem d_AL_remove_1 : decode b_AL_remove 1 = .ok (.aload_n 0, 1) := by decide +kernel
theorem d_AL_remove_2 : decode b_AL_remove 2 = .ok (.getfield 48, 3) := by decide +kernel
theorem d_AL_remove_5 : decode b_AL_remove 5 = .ok (.invokestatic 118, 3) := by decide +kernel
theorem d_AL_remove_8 : decode b_AL_remove 8 = .ok (.pop, 1) := by decide +kernel
theorem d_AL_remove_9 : decode b_AL_remove 9 = .ok (.aload_n 0, 1) := by decide +kernel
theorem d_AL_remove_10 : decode b_AL_remove 10 = .ok (.getfield 9, 3) := by decide +kernel
theorem d_AL_remove_13 : decode b_AL_remove 13 = .ok (.astore_n 2, 1) := by decide +kernel
theorem d_AL_remove_14 : decode b_AL_remove 14 = .ok (.aload_n 2, 1) := by decide +kernel
theorem d_AL_remove_15 : decode b_AL_remove 15 = .ok (.iload_n 1, 1) := by decide +kernel
theorem d_AL_remove_16 : decode b_AL_remove 16 = .ok (.aaload, 1) := by decide +kernel
theorem d_AL_remove_17 : decode b_AL_remove 17 = .ok (.astore_n 3, 1) := by decide +kernel
theorem d_AL_remove_18 : decode b_AL_remove 18 = .ok (.aload_n 0, 1) := by decide +kernel
theorem d_AL_remove_19 : decode b_AL_remove 19 = .ok (.aload_n 2, 1) := by decide +kernel
theorem d_AL_remove_20 : decode b_AL_remove 20 = .ok (.iload_n 1, 1) := by decide +kernel
theorem d_AL_remove_21 : decode b_AL_remove 21 = .ok (.invokevirtual 144, 3) := by decide +kernel
theorem d_AL_remove_24 : decode b_AL_remove 24 = .ok (.aload_n 3, 1) := by decide +kernel
theorem d_AL_remove_25 : decode b_AL_remove 25 = .ok (.areturn, 1) := by decide +kernel
theorem d_AL_fastRemove_0 : decode b_AL_fastRemove 0 = .ok (.aload_n 0, 1) := by decide +kernel
theorem d_AL_fastRemove_1 : decode b_AL_fastRemove 1 = .ok (.dup, 1) := by decide +kernel
theorem d_AL_fastRemove_2 : decode b_AL_fastRemove 2 = .ok (.getfield 63, 3) := by decide +kernel
theorem d_AL_fastRemove_5 : decode b_AL_fastRemove 5 = .ok (.iconst 1, 1) := by decide +kernel
theorem d_AL_fastRemove_6 : decode b_AL_fastRemove 6 = .ok (.iadd, 1) := by decide +kernel
theorem d_AL_fastRemove_7 : decode b_AL_fastRemove 7 = .ok (.putfield 63, 3) := by decide +kernel
theorem d_AL_fastRemove_10 : decode b_AL_fastRemove 10 = .ok (.aload_n 0, 1) := by decide +kernel
theorem d_AL_fastRemove_11 : decode b_AL_fastRemove 11 = .ok (.getfield 48, 3) := by decide +kernel
theorem d_AL_fastRemove_14 : decode b_AL_fastRemove 14 = .ok (.iconst 1, 1) := by decide +kernel
theorem d_AL_fastRemove_15 : decode b_AL_fastRemove 15 = .ok (.isub, 1) := by decide +kernel
theorem d_AL_fastRemove_16 : decode b_AL_fastRemove 16 = .ok (.dup, 1) := by decide +kernel
theorem d_AL_fastRemove_17 : decode b_AL_fastRemove 17 = .ok (.istore_n 3, 1) := by decide +kernel
theorem d_AL_fastRemove_18 : decode b_AL_fastRemove 18 = .ok (.iload_n 2, 1) := by decide +kernel
theorem d_AL_fastRemove_19 : decode b_AL_fastRemove 19 = .ok (.if_icmp .le 15, 3) := by decide +kernel
theorem d_AL_fastRemove_22 : decode b_AL_fastRemove 22 = .ok (.aload_n 1, 1) := by decide +kernel
theorem d_AL_fastRemove_23 : decode b_AL_fastRemove 23 = .ok (.iload_n 2, 1) := by decide +kernel
theorem d_AL_fastRemove_24 : decode b_AL_fastRemove 24 = .ok (.iconst 1, 1) := by decide +kernel
theorem d_AL_fastRemove_25 : decode b_AL_fastRemove 25 = .ok (.iadd, 1) := by decide +kernel
theorem d_AL_fastRemove_26 : decode b_AL_fastRemove 26 = .ok (.aload_n 1, 1) := by decide +kernel
theorem d_AL_fastRemove_27 : decode b_AL_fastRemove 27 = .ok (.iload_n 2, 1) := by decide +kernel
theorem d_AL_fastRemove_28 : decode b_AL_fastRemove 28 = .ok (.iload_n 3, 1) := by decide +kernel
theorem d_AL_fastRemove_29 : decode b_AL_fastRemove 29 = .ok (.iload_n 2, 1) := by decide +kernel
theorem d_AL_fastRemove_30 : decode b_AL_fastRemove 30 = .ok (.isub, 1) := by decide +kernel
theorem d_AL_fastRemove_31 : decode b_AL_fastRemove 31 = .ok (.invokestatic 112, 3) := by decide +kernel
theorem d_AL_fastRemove_34 : decode b_AL_fastRemove 34 = .ok (.aload_n 1, 1) := by decide +kernel
theorem d_AL_fastRemove_35 : decode b_AL_fastRemove 35 = .ok (.aload_n 0, 1) := by decide +kernel
theorem d_AL_fastRemove_36 : decode b_AL_fastRemove 36 = .ok (.iload_n 3, 1) := by decide +kernel
theorem d_AL_fastRemove_37 : decode b_AL_fastRemove 37 = .ok (.dup_x1, 1) := by decide +kernel
theorem d_AL_fastRemove_38 : decode b_AL_fastRemove 38 = .ok (.putfield 48, 3) := by decide +kernel
theorem d_AL_fastRemove_41 : decode b_AL_fastRemove 41 = .ok (.aconst_null, 1) := by decide +kernel
theorem d_AL_fastRemove_42 : decode b_AL_fastRemove 42 = .ok (.aastore, 1) := by decide +kernel
theorem d_AL_fastRemove_43 : decode b_AL_fastRemove 43 = .ok (.return_, 1) := by decide +kernel
theorem d_Ar_fill_0 : decode b_Ar_fill 0 = .ok (.iconst 0, 1) := by decide +kernel
theorem d_Ar_fill_1 : decode b_Ar_fill 1 = .ok (.istore_n 2, 1) := by decide +kernel
theorem d_Ar_fill_2 : decode b_Ar_fill 2 = .ok (.aload_n 0, 1) := by decide +kernel
theorem d_Ar_fill_3 : decode b_Ar_fill 3 = .ok (.arraylength, 1) := by decide +kernel
theorem d_Ar_fill_4 : decode b_Ar_fill 4 = .ok (.istore_n 3, 1) := by decide +kernel
theorem d_Ar_fill_5 : decode b_Ar_fill 5 = .ok (.iload_n 2, 1) := by decide +kernel
theorem d_Ar_fill_6 : decode b_Ar_fill 6 = .ok (.iload_n 3, 1) := by decide +kernel
theorem d_Ar_fill_7 : decode b_Ar_fill 7 = .ok (.if_icmp .ge 13, 3) := by decide +kernel
theorem d_Ar_fill_10 : decode b_Ar_fill 10 = .ok (.aload_n 0, 1) := by decide +kernel
theorem d_Ar_fill_11 : decode b_Ar_fill 11 = .ok (.iload_n 2, 1) := by decide +kernel
theorem d_Ar_fill_12 : decode b_Ar_fill 12 = .ok (.iload_n 1, 1) := by decide +kernel
theorem d_Ar_fill_13 : decode b_Ar_fill 13 = .ok (.iastore, 1) := by decide +kernel
theorem d_Ar_fill_14 : decode b_Ar_fill 14 = .ok (.iinc 2 1, 3) := by decide +kernel
theorem d_Ar_fill_17 : decode b_Ar_fill 17 = .ok (.goto (-12), 3) := by decide +kernel
theorem d_Ar_fill_20 : decode b_Ar_fill 20 = .ok (.return_, 1) := by decide +kernel
end
section
theorem d_HR_init_0 : decode b_HR_init 0 = .ok (.aload_n 0, 1) := by decide +kernel
theorem d_HR_init_1 : decode b_HR_init 1 = .ok (.invokespecial 1, 3) := by decide +kernel
theorem d_HR_init_4 : decode b_HR_init 4 = .ok (.aload_n 0, 1) := by decide +kernel
theorem d_HR_init_5 : decode b_HR_init 5 = .ok (.new 7, 3) := by decide +kernel
theorem d_HR_init_8 : decode b_HR_init 8 = .ok (.dup, 1) := by decide +kernel
theorem d_HR_init_9 : decode b_HR_init 9 = .ok (.invokespecial 9, 3) := by decide +kernel
theorem d_HR_init_12 : decode b_HR_init 12 = .ok (.putfield 10, 3) := by decide +kernel
theorem d_HR_init_15 : decode b_HR_init 15 = .ok (.aload_n 0, 1) := by decide +kernel
theorem d_HR_init_16 : decode b_HR_init 16 = .ok (.new 7, 3) := by decide +kernel
theorem d_HR_init_19 : decode b_HR_init 19 = .ok (.dup, 1) := by decide +kernel
theorem d_HR_init_20 : decode b_HR_init 20 = .ok (.invokespecial 9, 3) := by decide +kernel
theorem d_HR_init_23 : decode b_HR_init 23 = .ok (.putfield 16, 3) := by decide +kernel
theorem d_HR_init_26 : decode b_HR_init 26 = .ok (.aload_n 0, 1) := by decide +kernel
theorem d_HR_init_27 : decode b_HR_init 27 = .ok (.new 7, 3) := by decide +kernel
theorem d_HR_init_30 : decode b_HR_init 30 = .ok (.dup, 1) := by decide +kernel
theorem d_HR_init_31 : decode b_HR_init 31 = .ok (.invokespecial 9, 3) := by decide +kernel
theorem d_HR_init_34 : decode b_HR_init 34 = .ok (.putfield 19, 3) := by decide +kernel
theorem d_HR_init_37 : decode b_HR_init 37 = .ok (.aload_n 0, 1) := by decide +kernel
theorem d_HR_init_38 : decode b_HR_init 38 = .ok (.iconst 0, 1) := by decide +kernel
theorem d_HR_init_39 : decode b_HR_init 39 = .ok (.putfield 22, 3) := by decide +kernel
theorem d_HR_init_42 : decode b_HR_init 42 = .ok (.aload_n 0, 1) := by decide +kernel
theorem d_HR_init_43 : decode b_HR_init 43 = .ok (.bipush 12, 2) := by decide +kernel
theorem d_HR_init_45 : decode b_HR_init 45 = .ok (.newarray .int, 2) := by decide +kernel
theorem d_HR_init_47 : decode b_HR_init 47 = .ok (.putfield 26, 3) := by decide +kernel
theorem d_HR_init_50 : decode b_HR_init 50 = .ok (.aload_n 0, 1) := by decide +kernel
theorem d_HR_init_51 : decode b_HR_init 51 = .ok (.bipush 13, 2) := by decide +kernel
theorem d_HR_init_53 : decode b_HR_init 53 = .ok (.newarray .int, 2) := by decide +kernel
theorem d_HR_init_55 : decode b_HR_init 55 = .ok (.putfield 30, 3) := by decide +kernel
theorem d_HR_init_58 : decode b_HR_init 58 = .ok (.aload_n 0, 1) := by decide +kernel
theorem d_HR_init_59 : decode b_HR_init 59 = .ok (.iconst 0, 1) := by decide +kernel
theorem d_HR_init_60 : decode b_HR_init 60 = .ok (.putfield 33, 3) := by decide +kernel
theorem d_HR_init_63 : decode b_HR_init 63 = .ok (.aload_n 0, 1) := by decide +kernel
theorem d_HR_init_64 : decode b_HR_init 64 = .ok (.bipush 30, 2) := by decide +kernel
theorem d_HR_init_66 : decode b_HR_init 66 = .ok (.newarray .int, 2) := by decide +kernel
theorem d_HR_init_68 : decode b_HR_init 68 = .ok (.putfield 36, 3) := by decide +kernel
theorem d_HR_init_71 : decode b_HR_init 71 = .ok (.aload_n 0, 1) := by decide +kernel
theorem d_HR_init_72 : decode b_HR_init 72 = .ok (.iconst 0, 1) := by decide +kernel
theorem d_HR_init_73 : decode b_HR_init 73 = .ok (.putfield 39, 3) := by decide +kernel
theorem d_HR_init_76 : decode b_HR_init 76 = .ok (.aload_n 0, 1) := by decide +kernel
theorem d_HR_init_77 : decode b_HR_init 77 = .ok (.bipush 32, 2) := by decide +kernel
theorem d_HR_init_79 : decode b_HR_init 79 = .ok (.newarray .int, 2) := by decide +kernel
theorem d_HR_init_81 : decode b_HR_init 81 = .ok (.putfield 42, 3) := by decide +kernel
theorem d_HR_init_84 : decode b_HR_init 84 = .ok (.aload_n 0, 1) := by decide +kernel
theorem d_HR_init_85 : decode b_HR_init 85 = .ok (.bipush 33, 2) := by decide +kernel
theorem d_HR_init_87 : decode b_HR_init 87 = .ok (.newarray .int, 2) := by decide +kernel
theorem d_HR_init_89 : decode b_HR_init 89 = .ok (.putfield 45, 3) := by decide +kernel
theorem d_HR_init_92 : decode b_HR_init 92 = .ok (.aload_n 0, 1) := by decide +kernel
theorem d_HR_init_93 : decode b_HR_init 93 = .ok (.bipush 30, 2) := by decide +kernel
theorem d_HR_init_95 : decode b_HR_init 95 = .ok (.newarray .int, 2) := by decide +kernel
theorem d_HR_init_97 : decode b_HR_init 97 = .ok (.putfield 48, 3) := by decide +kernel
theorem d_HR_init_100 : decode b_HR_init 100 = .ok (.aload_n 0, 1) := by decide +kernel
theorem d_HR_init_101 : decode b_HR_init 101 = .ok (.iconst 0, 1) := by decide +kernel
theorem d_HR_init_102 : decode b_HR_init 102 = .ok (.putfield 51, 3) := by decide +kernel
theorem d_HR_init_105 : decode b_HR_init 105 = .ok (.return_, 1) := by decide +kernel
theorem d_HR_language_0 : decode b_HR_language 0 = .ok (.aload_n 0, 1) := by decide +kernel
theorem d_HR_language_1 : decode b_HR_language 1 = .ok (.getfield 10, 3) := by decide +kernel
theorem d_HR_language_4 : decode b_HR_language 4 = .ok (.invokevirtual 54, 3) := by decide +kernel
theorem d_HR_language_7 : decode b_HR_language 7 = .ok (.iconst 4, 1) := by decide +kernel
theorem d_HR_language_8 : decode b_HR_language 8 = .ok (.if_icmp .lt 6, 3) := by decide +kernel
theorem d_HR_language_11 : decode b_HR_language 11 = .ok (.bipush (-2), 2) := by decide +kernel
theorem d_HR_language_13 : decode b_HR_language 13 = .ok (.ireturn, 1) := by decide +kernel
theorem d_HR_language_14 : decode b_HR_language 14 = .ok (.aload_n 0, 1) := by decide +kernel
theorem d_HR_language_15 : decode b_HR_language 15 = .ok (.getfield 10, 3) := by decide +kernel
theorem d_HR_language_18 : decode b_HR_language 18 = .ok (.new 58, 3) := by decide +kernel
theorem d_HR_language_21 : decode b_HR_language 21 = .ok (.dup, 1) := by decide +kernel
theorem d_HR_language_22 : decode b_HR_language 22 = .ok (.invokespecial 60, 3) := by decide +kernel
theorem d_HR_language_25 : decode b_HR_language 25 = .ok (.invokevirtual 61, 3) := by decide +kernel
theorem d_HR_language_28 : decode b_HR_language 28 = .ok (.pop, 1) := by decide +kernel
theorem d_HR_language_29 : decode b_HR_language 29 = .ok (.aload_n 0, 1) := by decide +kernel
theorem d_HR_language_30 : decode b_HR_language 30 = .ok (.getfield 10, 3) := by decide +kernel
theorem d_HR_language_33 : decode b_HR_language 33 = .ok (.invokevirtual 54, 3) := by decide +kernel
theorem d_HR_language_36 : decode b_HR_language 36 = .ok (.iconst 1, 1) := by decide +kernel
theorem d_HR_language_37 : decode b_HR_language 37 = .ok (.isub, 1) := by decide +kernel
theorem d_HR_language_38 : decode b_HR_language 38 = .ok (.ireturn, 1) := by decide +kernel
theorem d_La_init_0 : decode b_La_init 0 = .ok (.aload_n 0, 1) := by decide +kernel
theorem d_La_init_1 : decode b_La_init 1 = .ok (.invokespecial 3, 3) := by decide +kernel
theorem d_La_init_4 : decode b_La_init 4 = .ok (.aload_n 0, 1) := by decide +kernel
theorem d_La_init_5 : decode b_La_init 5 = .ok (.sipush 256, 3) := by decide +kernel
theorem d_La_init_8 : decode b_La_init 8 = .ok (.newarray .int, 2) := by decide +kernel
theorem d_La_init_10 : decode b_La_init 10 = .ok (.putfield 9, 3) := by decide +kernel
theorem d_La_init_13 : decode b_La_init 13 = .ok (.aload_n 0, 1) := by decide +kernel
theorem d_La_init_14 : decode b_La_init 14 = .ok (.sipush 256, 3) := by decide +kernel
theorem d_La_init_17 : decode b_La_init 17 = .ok (.newarray .boolean, 2) := by decide +kernel
theorem d_La_init_19 : decode b_La_init 19 = .ok (.putfield 15, 3) := by decide +kernel
theorem d_La_init_22 : decode b_La_init 22 = .ok (.aload_n 0, 1) := by decide +kernel
theorem d_La_init_23 : decode b_La_init 23 = .ok (.iconst 2, 1) := by decide +kernel
theorem d_La_init_24 : decode b_La_init 24 = .ok (.putfield 19, 3) := by decide +kernel
theorem d_La_init_27 : decode b_La_init 27 = .ok (.aload_n 0, 1) := by decide +kernel
theorem d_La_init_28 : decode b_La_init 28 = .ok (.iconst 3, 1) := by decide +kernel
theorem d_La_init_29 : decode b_La_init 29 = .ok (.putfield 23, 3) := by decide +kernel
theorem d_La_init_32 : decode b_La_init 32 = .ok (.aload_n 0, 1) := by decide +kernel
theorem d_La_init_33 : decode b_La_init 33 = .ok (.iconst 0, 1) := by decide +kernel
theorem d_La_init_34 : decode b_La_init 34 = .ok (.putfield 26, 3) := by decide +kernel
theorem d_La_init_37 : decode b_La_init 37 = .ok (.return_, 1) := by decide +kernel
theorem d_HR_code_0 : decode b_HR_code 0 = .ok (.aload_n 0, 1) := by decide +kernel
theorem d_HR_code_1 : decode b_HR_code 1 = .ok (.iload_n 1, 1) := by decide +kernel
theorem d_HR_code_2 : decode b_HR_code 2 = .ok (.invokevirtual 65, 3) := by decide +kernel
theorem d_HR_code_5 : decode b_HR_code 5 = .ok (.ifCond .eq 17, 3) := by decide +kernel
theorem d_HR_code_8 : decode b_HR_code 8 = .ok (.iload_n 2, 1) := by decide +kernel
theorem d_HR_code_9 : decode b_HR_code 9 = .ok (.invokestatic 69, 3) := by decide +kernel
theorem d_HR_code_12 : decode b_HR_code 12 = .ok (.ifCond .eq 10, 3) := by decide +kernel
theorem d_HR_code_15 : decode b_HR_code 15 = .ok (.iload_n 3, 1) := by decide +kernel
theorem d_HR_code_16 : decode b_HR_code 16 = .ok (.invokestatic 72, 3) := by decide +kernel
theorem d_HR_code_19 : decode b_HR_code 19 = .ok (.ifCond .ne 5, 3) := by decide +kernel
theorem d_HR_code_22 : decode b_HR_code 22 = .ok (.iconst (-1), 1) := by decide +kernel
theorem d_HR_code_23 : decode b_HR_code 23 = .ok (.ireturn, 1) := by decide +kernel
theorem d_HR_code_24 : decode b_HR_code 24 = .ok (.aload_n 0, 1) := by decide +kernel
theorem d_HR_code_25 : decode b_HR_code 25 = .ok (.getfield 10, 3) := by decide +kernel
theorem d_HR_code_28 : decode b_HR_code 28 = .ok (.iload_n 1, 1) := by decide +kernel
theorem d_HR_code_29 : decode b_HR_code 29 = .ok (.invokevirtual 75, 3) := by decide +kernel
theorem d_HR_code_32 : decode b_HR_code 32 = .ok (.checkcast 58, 3) := by decide +kernel
theorem d_HR_code_35 : decode b_HR_code 35 = .ok (.astore 5, 2) := by decide +kernel
theorem d_HR_code_37 : decode b_HR_code 37 = .ok (.aload 5, 2) := by decide +kernel
theorem d_HR_code_39 : decode b_HR_code 39 = .ok (.getfield 79, 3) := by decide +kernel
theorem d_HR_code_42 : decode b_HR_code 42 = .ok (.iload_n 2, 1) := by decide +kernel
theorem d_HR_code_43 : decode b_HR_code 43 = .ok (.iload_n 3, 1) := by decide +kernel
theorem d_HR_code_44 : decode b_HR_code 44 = .ok (.iastore, 1) := by decide +kernel
theorem d_HR_code_45 : decode b_HR_code 45 = .ok (.aload 5, 2) := by decide +kernel
theorem d_HR_code_47 : decode b_HR_code 47 = .ok (.getfield 82, 3) := by decide +kernel
theorem d_HR_code_50 : decode b_HR_code 50 = .ok (.iload_n 2, 1) := by decide +kernel
theorem d_HR_code_51 : decode b_HR_code 51 = .ok (.iload 4, 2) := by decide +kernel
theorem d_HR_code_53 : decode b_HR_code 53 = .ok (.bastore, 1) := by decide +kernel
theorem d_HR_code_54 : decode b_HR_code 54 = .ok (.iconst 1, 1) := by decide +kernel
theorem d_HR_code_55 : decode b_HR_code 55 = .ok (.ireturn, 1) := by decide +kernel
theorem d_HR_isLanguage_0 : decode b_HR_isLanguage 0 = .ok (.iload_n 1, 1) := by decide +kernel
theorem d_HR_isLanguage_1 : decode b_HR_isLanguage 1 = .ok (.ifCond .lt 18, 3) := by decide +kernel
theorem d_HR_isLanguage_4 : decode b_HR_isLanguage 4 = .ok (.iload_n 1, 1) := by decide +kernel
theorem d_HR_isLanguage_5 : decode b_HR_isLanguage 5 = .ok (.aload_n 0, 1) := by decide +kernel
theorem d_HR_isLanguage_6 : decode b_HR_isLanguage 6 = .ok (.getfield 10, 3) := by decide +kernel
theorem d_HR_isLanguage_9 : decode b_HR_isLanguage 9 = .ok (.invokevirtual 54, 3) := by decide +kernel
theorem d_HR_isLanguage_12 : decode b_HR_isLanguage 12 = .ok (.if_icmp .ge 7, 3) := by decide +kernel
theorem d_HR_isLanguage_15 : decode b_HR_isLanguage 15 = .ok (.iconst 1, 1) := by decide +kernel
theorem d_HR_isLanguage_16 : decode b_HR_isLanguage 16 = .ok (.goto 4, 3) := by decide +kernel
theorem d_HR_isLanguage_19 : decode b_HR_isLanguage 19 = .ok (.iconst 0, 1) := by decide +kernel
theorem d_HR_isLanguage_20 : decode b_HR_isLanguage 20 = .ok (.ireturn, 1) := by decide +kernel
theorem d_HR_isSign_0 : decode b_HR_isSign 0 = .ok (.iload_n 0, 1) := by decide +kernel
theorem d_HR_isSign_1 : decode b_HR_isSign 1 = .ok (.ifCond .lt 14, 3) := by decide +kernel
theorem d_HR_isSign_4 : decode b_HR_isSign 4 = .ok (.iload_n 0, 1) := by decide +kernel
theorem d_HR_isSign_5 : decode b_HR_isSign 5 = .ok (.sipush 256, 3) := by decide +kernel
theorem d_HR_isSign_8 : decode b_HR_isSign 8 = .ok (.if_icmp .ge 7, 3) := by decide +kernel
theorem d_HR_isSign_11 : decode b_HR_isSign 11 = .ok (.iconst 1, 1) := by decide +kernel
theorem d_HR_isSign_12 : decode b_HR_isSign 12 = .ok (.goto 4, 3) := by decide +kernel
theorem d_HR_isSign_15 : decode b_HR_isSign 15 = .ok (.iconst 0, 1) := by decide +kernel
theorem d_HR_isSign_16 : decode b_HR_isSign 16 = .ok (.ireturn, 1) := by decide +kernel
theorem d_HR_isLetterOrZero_0 : decode b_HR_isLetterOrZero 0 = .ok (.iload_n 0, 1) := by decide +kernel
theorem d_HR_isLetterOrZero_1 : decode b_HR_isLetterOrZero 1 = .ok (.ifCond .lt 13, 3) := by decide +kernel
theorem d_HR_isLetterOrZero_4 : decode b_HR_isLetterOrZero 4 = .ok (.iload_n 0, 1) := by decide +kernel
theorem d_HR_isLetterOrZero_5 : decode b_HR_isLetterOrZero 5 = .ok (.bipush 30, 2) := by decide +kernel
theorem d_HR_isLetterOrZero_7 : decode b_HR_isLetterOrZero 7 = .ok (.if_icmp .gt 7, 3) := by decide +kernel
theorem d_HR_isLetterOrZero_10 : decode b_HR_isLetterOrZero 10 = .ok (.iconst 1, 1) := by decide +kernel
theorem d_HR_isLetterOrZero_11 : decode b_HR_isLetterOrZero 11 = .ok (.goto 4, 3) := by decide +kernel
theorem d_HR_isLetterOrZero_14 : decode b_HR_isLetterOrZero 14 = .ok (.iconst 0, 1) := by decide +kernel
theorem d_HR_isLetterOrZero_15 : decode b_HR_isLetterOrZero 15 = .ok (.ireturn, 1) := by decide +kernel
theorem d_HR_ends_0 : decode b_HR_ends 0 = .ok (.aload_n 0, 1) := by decide +kernel
theorem d_HR_ends_1 : decode b_HR_ends 1 = .ok (.iload_n 1, 1) := by decide +kernel
theorem d_HR_ends_2 : decode b_HR_ends 2 = .ok (.invokevirtual 65, 3) := by decide +kernel
theorem d_HR_ends_5 : decode b_HR_ends 5 = .ok (.ifCond .eq 17, 3) := by decide +kernel
theorem d_HR_ends_8 : decode b_HR_ends 8 = .ok (.iload_n 2, 1) := by decide +kernel
theorem d_HR_ends_9 : decode b_HR_ends 9 = .ok (.invokestatic 86, 3) := by decide +kernel
theorem d_HR_ends_12 : decode b_HR_ends 12 = .ok (.ifCond .eq 10, 3) := by decide +kernel
theorem d_HR_ends_15 : decode b_HR_ends 15 = .ok (.iload_n 3, 1) := by decide +kernel
theorem d_HR_ends_16 : decode b_HR_ends 16 = .ok (.invokestatic 86, 3) := by decide +kernel
theorem d_HR_ends_19 : decode b_HR_ends 19 = .ok (.ifCond .ne 5, 3) := by decide +kernel
theorem d_HR_ends_22 : decode b_HR_ends 22 = .ok (.iconst (-1), 1) := by decide +kernel
theorem d_HR_ends_23 : decode b_HR_ends 23 = .ok (.ireturn, 1) := by decide +kernel
theorem d_HR_ends_24 : decode b_HR_ends 24 = .ok (.aload_n 0, 1) := by decide +kernel
theorem d_HR_ends_25 : decode b_HR_ends 25 = .ok (.getfield 10, 3) := by decide +kernel
theorem d_HR_ends_28 : decode b_HR_ends 28 = .ok (.iload_n 1, 1) := by decide +kernel
theorem d_HR_ends_29 : decode b_HR_ends 29 = .ok (.invokevirtual 75, 3) := by decide +kernel
theorem d_HR_ends_32 : decode b_HR_ends 32 = .ok (.checkcast 58, 3) := by decide +kernel
theorem d_HR_ends_35 : decode b_HR_ends 35 = .ok (.astore 5, 2) := by decide +kernel
theorem d_HR_ends_37 : decode b_HR_ends 37 = .ok (.aload 5, 2) := by decide +kernel
theorem d_HR_ends_39 : decode b_HR_ends 39 = .ok (.iload_n 2, 1) := by decide +kernel
theorem d_HR_ends_40 : decode b_HR_ends 40 = .ok (.putfield 89, 3) := by decide +kernel
theorem d_HR_ends_43 : decode b_HR_ends 43 = .ok (.aload 5, 2) := by decide +kernel
theorem d_HR_ends_45 : decode b_HR_ends 45 = .ok (.iload_n 3, 1) := by decide +kernel
theorem d_HR_ends_46 : decode b_HR_ends 46 = .ok (.putfield 92, 3) := by decide +kernel
theorem d_HR_ends_49 : decode b_HR_ends 49 = .ok (.aload 5, 2) := by decide +kernel
theorem d_HR_ends_51 : decode b_HR_ends 51 = .ok (.iload 4, 2) := by decide +kernel
theorem d_HR_ends_53 : decode b_HR_ends 53 = .ok (.putfield 95, 3) := by decide +kernel
theorem d_HR_ends_56 : decode b_HR_ends 56 = .ok (.iconst 1, 1) := by decide +kernel
theorem d_HR_ends_57 : decode b_HR_ends 57 = .ok (.ireturn, 1) := by decide +kernel
theorem d_HR_isLeast_0 : decode b_HR_isLeast 0 = .ok (.iload_n 0, 1) := by decide +kernel
theorem d_HR_isLeast_1 : decode b_HR_isLeast 1 = .ok (.ifCond .lt 13, 3) := by decide +kernel
theorem d_HR_isLeast_4 : decode b_HR_isLeast 4 = .ok (.iload_n 0, 1) := by decide +kernel
theorem d_HR_isLeast_5 : decode b_HR_isLeast 5 = .ok (.bipush 20, 2) := by decide +kernel
theorem d_HR_isLeast_7 : decode b_HR_isLeast 7 = .ok (.if_icmp .gt 7, 3) := by decide +kernel
theorem d_HR_isLeast_10 : decode b_HR_isLeast 10 = .ok (.iconst 1, 1) := by decide +kernel
theorem d_HR_isLeast_11 : decode b_HR_isLeast 11 = .ok (.goto 4, 3) := by decide +kernel
theorem d_HR_isLeast_14 : decode b_HR_isLeast 14 = .ok (.iconst 0, 1) := by decide +kernel
theorem d_HR_isLeast_15 : decode b_HR_isLeast 15 = .ok (.ireturn, 1) := by decide +kernel
theorem d_HR_next_0 : decode b_HR_next 0 = .ok (.iload_n 1, 1) := by decide +kernel
theorem d_HR_next_1 : decode b_HR_next 1 = .ok (.invokestatic 72, 3) := by decide +kernel
theorem d_HR_next_4 : decode b_HR_next 4 = .ok (.ifCond .eq 10, 3) := by decide +kernel
theorem d_HR_next_7 : decode b_HR_next 7 = .ok (.iload_n 2, 1) := by decide +kernel
theorem d_HR_next_8 : decode b_HR_next 8 = .ok (.invokestatic 99, 3) := by decide +kernel
theorem d_HR_next_11 : decode b_HR_next 11 = .ok (.ifCond .ne 5, 3) := by decide +kernel
theorem d_HR_next_14 : decode b_HR_next 14 = .ok (.iconst (-1), 1) := by decide +kernel
theorem d_HR_next_15 : decode b_HR_next 15 = .ok (.ireturn, 1) := by decide +kernel
theorem d_HR_next_16 : decode b_HR_next 16 = .ok (.aload_n 0, 1) := by decide +kernel
theorem d_HR_next_17 : decode b_HR_next 17 = .ok (.getfield 33, 3) := by decide +kernel
theorem d_HR_next_20 : decode b_HR_next 20 = .ok (.bipush 12, 2) := by decide +kernel
theorem d_HR_next_22 : decode b_HR_next 22 = .ok (.if_icmp .lt 6, 3) := by decide +kernel
theorem d_HR_next_25 : decode b_HR_next 25 = .ok (.bipush (-2), 2) := by decide +kernel
theorem d_HR_next_27 : decode b_HR_next 27 = .ok (.ireturn, 1) := by decide +kernel
theorem d_HR_next_28 : decode b_HR_next 28 = .ok (.aload_n 0, 1) := by decide +kernel
theorem d_HR_next_29 : decode b_HR_next 29 = .ok (.getfield 26, 3) := by decide +kernel
theorem d_HR_next_32 : decode b_HR_next 32 = .ok (.aload_n 0, 1) := by decide +kernel
theorem d_HR_next_33 : decode b_HR_next 33 = .ok (.getfield 33, 3) := by decide +kernel
theorem d_HR_next_36 : decode b_HR_next 36 = .ok (.iload_n 1, 1) := by decide +kernel
theorem d_HR_next_37 : decode b_HR_next 37 = .ok (.iastore, 1) := by decide +kernel
theorem d_HR_next_38 : decode b_HR_next 38 = .ok (.aload_n 0, 1) := by decide +kernel
theorem d_HR_next_39 : decode b_HR_next 39 = .ok (.getfield 30, 3) := by decide +kernel
theorem d_HR_next_42 : decode b_HR_next 42 = .ok (.aload_n 0, 1) := by decide +kernel
theorem d_HR_next_43 : decode b_HR_next 43 = .ok (.getfield 33, 3) := by decide +kernel
theorem d_HR_next_46 : decode b_HR_next 46 = .ok (.iload_n 2, 1) := by decide +kernel
theorem d_HR_next_47 : decode b_HR_next 47 = .ok (.iastore, 1) := by decide +kernel
theorem d_HR_next_48 : decode b_HR_next 48 = .ok (.aload_n 0, 1) := by decide +kernel
theorem d_HR_next_49 : decode b_HR_next 49 = .ok (.dup, 1) := by decide +kernel
theorem d_HR_next_50 : decode b_HR_next 50 = .ok (.getfield 33, 3) := by decide +kernel
theorem d_HR_next_53 : decode b_HR_next 53 = .ok (.iconst 1, 1) := by decide +kernel
theorem d_HR_next_54 : decode b_HR_next 54 = .ok (.iadd, 1) := by decide +kernel
theorem d_HR_next_55 : decode b_HR_next 55 = .ok (.putfield 33, 3) := by decide +kernel
theorem d_HR_next_58 : decode b_HR_next 58 = .ok (.aload_n 0, 1) := by decide +kernel
theorem d_HR_next_59 : decode b_HR_next 59 = .ok (.getfield 33, 3) := by decide +kernel
theorem d_HR_next_62 : decode b_HR_next 62 = .ok (.ireturn, 1) := by decide +kernel
theorem d_HR_isDigit_0 : decode b_HR_isDigit 0 = .ok (.iload_n 0, 1) := by decide +kernel
theorem d_HR_isDigit_1 : decode b_HR_isDigit 1 = .ok (.ifCond .lt 13, 3) := by decide +kernel
theorem d_HR_isDigit_4 : decode b_HR_isDigit 4 = .ok (.iload_n 0, 1) := by decide +kernel
theorem d_HR_isDigit_5 : decode b_HR_isDigit 5 = .ok (.bipush 9, 2) := by decide +kernel
theorem d_HR_isDigit_7 : decode b_HR_isDigit 7 = .ok (.if_icmp .gt 7, 3) := by decide +kernel
theorem d_HR_isDigit_10 : decode b_HR_isDigit 10 = .ok (.iconst 1, 1) := by decide +kernel
theorem d_HR_isDigit_11 : decode b_HR_isDigit 11 = .ok (.goto 4, 3) := by decide +kernel
theorem d_HR_isDigit_14 : decode b_HR_isDigit 14 = .ok (.iconst 0, 1) := by decide +kernel
theorem d_HR_isDigit_15 : decode b_HR_isDigit 15 = .ok (.ireturn, 1) := by decide +kernel
theorem d_HR_pattern_0 : decode b_HR_pattern 0 = .ok (.aload_n 0, 1) := by decide +kernel
theorem d_HR_pattern_1 : decode b_HR_pattern 1 = .ok (.iload_n 1, 1) := by decide +kernel
theorem d_HR_pattern_2 : decode b_HR_pattern 2 = .ok (.invokevirtual 65, 3) := by decide +kernel
theorem d_HR_pattern_5 : decode b_HR_pattern 5 = .ok (.ifCond .eq 10, 3) := by decide +kernel
theorem d_HR_pattern_8 : decode b_HR_pattern 8 = .ok (.iload_n 2, 1) := by decide +kernel
theorem d_HR_pattern_9 : decode b_HR_pattern 9 = .ok (.invokestatic 99, 3) := by decide +kernel
theorem d_HR_pattern_12 : decode b_HR_pattern 12 = .ok (.ifCond .ne 5, 3) := by decide +kernel
theorem d_HR_pattern_15 : decode b_HR_pattern 15 = .ok (.iconst (-1), 1) := by decide +kernel
theorem d_HR_pattern_16 : decode b_HR_pattern 16 = .ok (.ireturn, 1) := by decide +kernel
theorem d_HR_pattern_17 : decode b_HR_pattern 17 = .ok (.aload_n 0, 1) := by decide +kernel
theorem d_HR_pattern_18 : decode b_HR_pattern 18 = .ok (.getfield 33, 3) := by decide +kernel
theorem d_HR_pattern_21 : decode b_HR_pattern 21 = .ok (.istore_n 3, 1) := by decide +kernel
theorem d_HR_pattern_22 : decode b_HR_pattern 22 = .ok (.aload_n 0, 1) := by decide +kernel
theorem d_HR_pattern_23 : decode b_HR_pattern 23 = .ok (.iconst 0, 1) := by decide +kernel
theorem d_HR_pattern_24 : decode b_HR_pattern 24 = .ok (.putfield 33, 3) := by decide +kernel
theorem d_HR_pattern_27 : decode b_HR_pattern 27 = .ok (.aload_n 0, 1) := by decide +kernel
theorem d_HR_pattern_28 : decode b_HR_pattern 28 = .ok (.iload_n 3, 1) := by decide +kernel
theorem d_HR_pattern_29 : decode b_HR_pattern 29 = .ok (.invokevirtual 102, 3) := by decide +kernel
theorem d_HR_pattern_32 : decode b_HR_pattern 32 = .ok (.ifCond .ne 6, 3) := by decide +kernel
theorem d_HR_pattern_35 : decode b_HR_pattern 35 = .ok (.bipush (-3), 2) := by decide +kernel
theorem d_HR_pattern_37 : decode b_HR_pattern 37 = .ok (.ireturn, 1) := by decide +kernel
theorem d_HR_pattern_38 : decode b_HR_pattern 38 = .ok (.aload_n 0, 1) := by decide +kernel
theorem d_HR_pattern_39 : decode b_HR_pattern 39 = .ok (.getfield 30, 3) := by decide +kernel
theorem d_HR_pattern_42 : decode b_HR_pattern 42 = .ok (.iload_n 3, 1) := by decide +kernel
theorem d_HR_pattern_43 : decode b_HR_pattern 43 = .ok (.iload_n 2, 1) := by decide +kernel
theorem d_HR_pattern_44 : decode b_HR_pattern 44 = .ok (.iastore, 1) := by decide +kernel
theorem d_HR_pattern_45 : decode b_HR_pattern 45 = .ok (.aload_n 0, 1) := by decide +kernel
theorem d_HR_pattern_46 : decode b_HR_pattern 46 = .ok (.iload_n 1, 1) := by decide +kernel
theorem d_HR_pattern_47 : decode b_HR_pattern 47 = .ok (.iload_n 3, 1) := by decide +kernel
theorem d_HR_pattern_48 : decode b_HR_pattern 48 = .ok (.invokevirtual 105, 3) := by decide +kernel
theorem d_HR_pattern_51 : decode b_HR_pattern 51 = .ok (.istore 4, 2) := by decide +kernel
theorem d_HR_pattern_53 : decode b_HR_pattern 53 = .ok (.iload 4, 2) := by decide +kernel
theorem d_HR_pattern_55 : decode b_HR_pattern 55 = .ok (.iconst (-1), 1) := by decide +kernel
theorem d_HR_pattern_56 : decode b_HR_pattern 56 = .ok (.if_icmp .eq 33, 3) := by decide +kernel
theorem d_HR_pattern_59 : decode b_HR_pattern 59 = .ok (.aload_n 0, 1) := by decide +kernel
theorem d_HR_pattern_60 : decode b_HR_pattern 60 = .ok (.getfield 30, 3) := by decide +kernel
theorem d_HR_pattern_63 : decode b_HR_pattern 63 = .ok (.iconst 0, 1) := by decide +kernel
theorem d_HR_pattern_64 : decode b_HR_pattern 64 = .ok (.aload_n 0, 1) := by decide +kernel
theorem d_HR_pattern_65 : decode b_HR_pattern 65 = .ok (.getfield 16, 3) := by decide +kernel
theorem d_HR_pattern_68 : decode b_HR_pattern 68 = .ok (.iload 4, 2) := by decide +kernel
theorem d_HR_pattern_70 : decode b_HR_pattern 70 = .ok (.invokevirtual 75, 3) := by decide +kernel
theorem d_HR_pattern_73 : decode b_HR_pattern 73 = .ok (.checkcast 109, 3) := by decide +kernel
theorem d_HR_pattern_76 : decode b_HR_pattern 76 = .ok (.getfield 111, 3) := by decide +kernel
theorem d_HR_pattern_79 : decode b_HR_pattern 79 = .ok (.iconst 0, 1) := by decide +kernel
theorem d_HR_pattern_80 : decode b_HR_pattern 80 = .ok (.iload_n 3, 1) := by decide +kernel
theorem d_HR_pattern_81 : decode b_HR_pattern 81 = .ok (.iconst 1, 1) := by decide +kernel
theorem d_HR_pattern_82 : decode b_HR_pattern 82 = .ok (.iadd, 1) := by decide +kernel
theorem d_HR_pattern_83 : decode b_HR_pattern 83 = .ok (.invokestatic 114, 3) := by decide +kernel
theorem d_HR_pattern_86 : decode b_HR_pattern 86 = .ok (.iload 4, 2) := by decide +kernel
theorem d_HR_pattern_88 : decode b_HR_pattern 88 = .ok (.ireturn, 1) := by decide +kernel
theorem d_HR_pattern_89 : decode b_HR_pattern 89 = .ok (.aload_n 0, 1) := by decide +kernel
theorem d_HR_pattern_90 : decode b_HR_pattern 90 = .ok (.iload_n 1, 1) := by decide +kernel
theorem d_HR_pattern_91 : decode b_HR_pattern 91 = .ok (.iload_n 3, 1) := by decide +kernel
theorem d_HR_pattern_92 : decode b_HR_pattern 92 = .ok (.invokevirtual 120, 3) := by decide +kernel
theorem d_HR_pattern_95 : decode b_HR_pattern 95 = .ok (.ireturn, 1) := by decide +kernel
theorem d_HR_isPatternRow_0 : decode b_HR_isPatternRow 0 = .ok (.iconst 0, 1) := by decide +kernel
theorem d_HR_isPatternRow_1 : decode b_HR_isPatternRow 1 = .ok (.istore_n 2, 1) := by decide +kernel
theorem d_HR_isPatternRow_2 : decode b_HR_isPatternRow 2 = .ok (.iconst 0, 1) := by decide +kernel
theorem d_HR_isPatternRow_3 : decode b_HR_isPatternRow 3 = .ok (.istore_n 3, 1) := by decide +kernel
theorem d_HR_isPatternRow_4 : decode b_HR_isPatternRow 4 = .ok (.iload_n 3, 1) := by decide +kernel
theorem d_HR_isPatternRow_5 : decode b_HR_isPatternRow 5 = .ok (.iload_n 1, 1) := by decide +kernel
theorem d_HR_isPatternRow_6 : decode b_HR_isPatternRow 6 = .ok (.if_icmp .ge 36, 3) := by decide +kernel
theorem d_HR_isPatternRow_9 : decode b_HR_isPatternRow 9 = .ok (.aload_n 0, 1) := by decide +kernel
theorem d_HR_isPatternRow_10 : decode b_HR_isPatternRow 10 = .ok (.getfield 26, 3) := by decide +kernel
theorem d_HR_isPatternRow_13 : decode b_HR_isPatternRow 13 = .ok (.iload_n 3, 1) := by decide +kernel
theorem d_HR_isPatternRow_14 : decode b_HR_isPatternRow 14 = .ok (.iaload, 1) := by decide +kernel
theorem d_HR_isPatternRow_15 : decode b_HR_isPatternRow 15 = .ok (.ifCond .eq 8, 3) := by decide +kernel
theorem d_HR_isPatternRow_18 : decode b_HR_isPatternRow 18 = .ok (.iconst 1, 1) := by decide +kernel
theorem d_HR_isPatternRow_19 : decode b_HR_isPatternRow 19 = .ok (.istore_n 2, 1) := by decide +kernel
theorem d_HR_isPatternRow_20 : decode b_HR_isPatternRow 20 = .ok (.goto 16, 3) := by decide +kernel
theorem d_HR_isPatternRow_23 : decode b_HR_isPatternRow 23 = .ok (.iload_n 3, 1) := by decide +kernel
theorem d_HR_isPatternRow_24 : decode b_HR_isPatternRow 24 = .ok (.ifCond .le 12, 3) := by decide +kernel
theorem d_HR_isPatternRow_27 : decode b_HR_isPatternRow 27 = .ok (.iload_n 3, 1) := by decide +kernel
theorem d_HR_isPatternRow_28 : decode b_HR_isPatternRow 28 = .ok (.iload_n 1, 1) := by decide +kernel
theorem d_HR_isPatternRow_29 : decode b_HR_isPatternRow 29 = .ok (.iconst 1, 1) := by decide +kernel
theorem d_HR_isPatternRow_30 : decode b_HR_isPatternRow 30 = .ok (.isub, 1) := by decide +kernel
theorem d_HR_isPatternRow_31 : decode b_HR_isPatternRow 31 = .ok (.if_icmp .ge 5, 3) := by decide +kernel
theorem d_HR_isPatternRow_34 : decode b_HR_isPatternRow 34 = .ok (.iconst 0, 1) := by decide +kernel
theorem d_HR_isPatternRow_35 : decode b_HR_isPatternRow 35 = .ok (.ireturn, 1) := by decide +kernel
theorem d_HR_isPatternRow_36 : decode b_HR_isPatternRow 36 = .ok (.iinc 3 1, 3) := by decide +kernel
theorem d_HR_isPatternRow_39 : decode b_HR_isPatternRow 39 = .ok (.goto (-35), 3) := by decide +kernel
theorem d_HR_isPatternRow_42 : decode b_HR_isPatternRow 42 = .ok (.iload_n 2, 1) := by decide +kernel
theorem d_HR_isPatternRow_43 : decode b_HR_isPatternRow 43 = .ok (.ireturn, 1) := by decide +kernel
theorem d_HR_patternWithMadeRow_0 : decode b_HR_patternWithMadeRow 0 = .ok (.iconst 0, 1) := by decide +kernel
theorem d_HR_patternWithMadeRow_1 : decode b_HR_patternWithMadeRow 1 = .ok (.istore_n 3, 1) := by decide +kernel
theorem d_HR_patternWithMadeRow_2 : decode b_HR_patternWithMadeRow 2 = .ok (.iload_n 3, 1) := by decide +kernel
theorem d_HR_patternWithMadeRow_3 : decode b_HR_patternWithMadeRow 3 = .ok (.aload_n 0, 1) := by decide +kernel
theorem d_HR_patternWithMadeRow_4 : decode b_HR_patternWithMadeRow 4 = .ok (.getfield 16, 3) := by decide +kernel
theorem d_HR_patternWithMadeRow_7 : decode b_HR_patternWithMadeRow 7 = .ok (.invokevirtual 54, 3) := by decide +kernel
theorem d_HR_patternWithMadeRow_10 : decode b_HR_patternWithMadeRow 10 = .ok (.if_icmp .ge 59, 3) := by decide +kernel
theorem d_HR_patternWithMadeRow_13 : decode b_HR_patternWithMadeRow 13 = .ok (.aload_n 0, 1) := by decide +kernel
theorem d_HR_patternWithMadeRow_14 : decode b_HR_patternWithMadeRow 14 = .ok (.getfield 16, 3) := by decide +kernel
theorem d_HR_patternWithMadeRow_17 : decode b_HR_patternWithMadeRow 17 = .ok (.iload_n 3, 1) := by decide +kernel
theorem d_HR_patternWithMadeRow_18 : decode b_HR_patternWithMadeRow 18 = .ok (.invokevirtual 75, 3) := by decide +kernel
theorem d_HR_patternWithMadeRow_21 : decode b_HR_patternWithMadeRow 21 = .ok (.checkcast 109, 3) := by decide +kernel
theorem d_HR_patternWithMadeRow_24 : decode b_HR_patternWithMadeRow 24 = .ok (.astore 4, 2) := by decide +kernel
theorem d_HR_patternWithMadeRow_26 : decode b_HR_patternWithMadeRow 26 = .ok (.aload 4, 2) := by decide +kernel
theorem d_HR_patternWithMadeRow_28 : decode b_HR_patternWithMadeRow 28 = .ok (.getfield 155, 3) := by decide +kernel
theorem d_HR_patternWithMadeRow_31 : decode b_HR_patternWithMadeRow 31 = .ok (.iload_n 1, 1) := by decide +kernel
theorem d_HR_patternWithMadeRow_32 : decode b_HR_patternWithMadeRow 32 = .ok (.if_icmp .ne 31, 3) := by decide +kernel
theorem d_HR_patternWithMadeRow_35 : decode b_HR_patternWithMadeRow 35 = .ok (.aload 4, 2) := by decide +kernel
theorem d_HR_patternWithMadeRow_37 : decode b_HR_patternWithMadeRow 37 = .ok (.getfield 158, 3) := by decide +kernel
theorem d_HR_patternWithMadeRow_40 : decode b_HR_patternWithMadeRow 40 = .ok (.arraylength, 1) := by decide +kernel
theorem d_HR_patternWithMadeRow_41 : decode b_HR_patternWithMadeRow 41 = .ok (.iload_n 2, 1) := by decide +kernel
theorem d_HR_patternWithMadeRow_42 : decode b_HR_patternWithMadeRow 42 = .ok (.if_icmp .ne 21, 3) := by decide +kernel
theorem d_HR_patternWithMadeRow_45 : decode b_HR_patternWithMadeRow 45 = .ok (.aload 4, 2) := by decide +kernel
theorem d_HR_patternWithMadeRow_47 : decode b_HR_patternWithMadeRow 47 = .ok (.getfield 158, 3) := by decide +kernel
theorem d_HR_patternWithMadeRow_50 : decode b_HR_patternWithMadeRow 50 = .ok (.aload_n 0, 1) := by decide +kernel
theorem d_HR_patternWithMadeRow_51 : decode b_HR_patternWithMadeRow 51 = .ok (.getfield 26, 3) := by decide +kernel
theorem d_HR_patternWithMadeRow_54 : decode b_HR_patternWithMadeRow 54 = .ok (.iconst 0, 1) := by decide +kernel
theorem d_HR_patternWithMadeRow_55 : decode b_HR_patternWithMadeRow 55 = .ok (.invokestatic 161, 3) := by decide +kernel
theorem d_HR_patternWithMadeRow_58 : decode b_HR_patternWithMadeRow 58 = .ok (.ifCond .eq 5, 3) := by decide +kernel
theorem d_HR_patternWithMadeRow_61 : decode b_HR_patternWithMadeRow 61 = .ok (.iload_n 3, 1) := by decide +kernel
theorem d_HR_patternWithMadeRow_62 : decode b_HR_patternWithMadeRow 62 = .ok (.ireturn, 1) := by decide +kernel
theorem d_HR_patternWithMadeRow_63 : decode b_HR_patternWithMadeRow 63 = .ok (.iinc 3 1, 3) := by decide +kernel
theorem d_HR_patternWithMadeRow_66 : decode b_HR_patternWithMadeRow 66 = .ok (.goto (-64), 3) := by decide +kernel
theorem d_HR_patternWithMadeRow_69 : decode b_HR_patternWithMadeRow 69 = .ok (.iconst (-1), 1) := by decide +kernel
theorem d_HR_patternWithMadeRow_70 : decode b_HR_patternWithMadeRow 70 = .ok (.ireturn, 1) := by decide +kernel
theorem d_HR_standsAt_0 : decode b_HR_standsAt 0 = .ok (.iload_n 2, 1) := by decide +kernel
theorem d_HR_standsAt_1 : decode b_HR_standsAt 1 = .ok (.ifCond .lt 12, 3) := by decide +kernel
theorem d_HR_standsAt_4 : decode b_HR_standsAt 4 = .ok (.iload_n 2, 1) := by decide +kernel
theorem d_HR_standsAt_5 : decode b_HR_standsAt 5 = .ok (.aload_n 1, 1) := by decide +kernel
theorem d_HR_standsAt_6 : decode b_HR_standsAt 6 = .ok (.arraylength, 1) := by decide +kernel
theorem d_HR_standsAt_7 : decode b_HR_standsAt 7 = .ok (.aload_n 0, 1) := by decide +kernel
theorem d_HR_standsAt_8 : decode b_HR_standsAt 8 = .ok (.arraylength, 1) := by decide +kernel
theorem d_HR_standsAt_9 : decode b_HR_standsAt 9 = .ok (.isub, 1) := by decide +kernel
theorem d_HR_standsAt_10 : decode b_HR_standsAt 10 = .ok (.if_icmp .le 5, 3) := by decide +kernel
theorem d_HR_standsAt_13 : decode b_HR_standsAt 13 = .ok (.iconst 0, 1) := by decide +kernel
theorem d_HR_standsAt_14 : decode b_HR_standsAt 14 = .ok (.ireturn, 1) := by decide +kernel
theorem d_HR_standsAt_15 : decode b_HR_standsAt 15 = .ok (.iconst 0, 1) := by decide +kernel
theorem d_HR_standsAt_16 : decode b_HR_standsAt 16 = .ok (.istore_n 3, 1) := by decide +kernel
theorem d_HR_standsAt_17 : decode b_HR_standsAt 17 = .ok (.iload_n 3, 1) := by decide +kernel
theorem d_HR_standsAt_18 : decode b_HR_standsAt 18 = .ok (.aload_n 0, 1) := by decide +kernel
theorem d_HR_standsAt_19 : decode b_HR_standsAt 19 = .ok (.arraylength, 1) := by decide +kernel
theorem d_HR_standsAt_20 : decode b_HR_standsAt 20 = .ok (.if_icmp .ge 22, 3) := by decide +kernel
theorem d_HR_standsAt_23 : decode b_HR_standsAt 23 = .ok (.aload_n 1, 1) := by decide +kernel
theorem d_HR_standsAt_24 : decode b_HR_standsAt 24 = .ok (.iload_n 2, 1) := by decide +kernel
theorem d_HR_standsAt_25 : decode b_HR_standsAt 25 = .ok (.iload_n 3, 1) := by decide +kernel
theorem d_HR_standsAt_26 : decode b_HR_standsAt 26 = .ok (.iadd, 1) := by decide +kernel
theorem d_HR_standsAt_27 : decode b_HR_standsAt 27 = .ok (.iaload, 1) := by decide +kernel
theorem d_HR_standsAt_28 : decode b_HR_standsAt 28 = .ok (.aload_n 0, 1) := by decide +kernel
theorem d_HR_standsAt_29 : decode b_HR_standsAt 29 = .ok (.iload_n 3, 1) := by decide +kernel
theorem d_HR_standsAt_30 : decode b_HR_standsAt 30 = .ok (.iaload, 1) := by decide +kernel
theorem d_HR_standsAt_31 : decode b_HR_standsAt 31 = .ok (.if_icmp .eq 5, 3) := by decide +kernel
theorem d_HR_standsAt_34 : decode b_HR_standsAt 34 = .ok (.iconst 0, 1) := by decide +kernel
theorem d_HR_standsAt_35 : decode b_HR_standsAt 35 = .ok (.ireturn, 1) := by decide +kernel
theorem d_HR_standsAt_36 : decode b_HR_standsAt 36 = .ok (.iinc 3 1, 3) := by decide +kernel
theorem d_HR_standsAt_39 : decode b_HR_standsAt 39 = .ok (.goto (-22), 3) := by decide +kernel
theorem d_HR_standsAt_42 : decode b_HR_standsAt 42 = .ok (.iconst 1, 1) := by decide +kernel
theorem d_HR_standsAt_43 : decode b_HR_standsAt 43 = .ok (.ireturn, 1) := by decide +kernel
theorem d_HR_addPattern_0 : decode b_HR_addPattern 0 = .ok (.aload_n 0, 1) := by decide +kernel
theorem d_HR_addPattern_1 : decode b_HR_addPattern 1 = .ok (.getfield 16, 3) := by decide +kernel
theorem d_HR_addPattern_4 : decode b_HR_addPattern 4 = .ok (.invokevirtual 54, 3) := by decide +kernel
theorem d_HR_addPattern_7 : decode b_HR_addPattern 7 = .ok (.sipush 150, 3) := by decide +kernel
theorem d_HR_addPattern_10 : decode b_HR_addPattern 10 = .ok (.if_icmp .ge 15, 3) := by decide +kernel
theorem d_HR_addPattern_13 : decode b_HR_addPattern 13 = .ok (.iload_n 2, 1) := by decide +kernel
theorem d_HR_addPattern_14 : decode b_HR_addPattern 14 = .ok (.sipush 900, 3) := by decide +kernel
theorem d_HR_addPattern_17 : decode b_HR_addPattern 17 = .ok (.aload_n 0, 1) := by decide +kernel
theorem d_HR_addPattern_18 : decode b_HR_addPattern 18 = .ok (.getfield 22, 3) := by decide +kernel
theorem d_HR_addPattern_21 : decode b_HR_addPattern 21 = .ok (.isub, 1) := by decide +kernel
theorem d_HR_addPattern_22 : decode b_HR_addPattern 22 = .ok (.if_icmp .le 6, 3) := by decide +kernel
theorem d_HR_addPattern_25 : decode b_HR_addPattern 25 = .ok (.bipush (-2), 2) := by decide +kernel
theorem d_HR_addPattern_27 : decode b_HR_addPattern 27 = .ok (.ireturn, 1) := by decide +kernel
theorem d_HR_addPattern_28 : decode b_HR_addPattern 28 = .ok (.aload_n 0, 1) := by decide +kernel
theorem d_HR_addPattern_29 : decode b_HR_addPattern 29 = .ok (.getfield 26, 3) := by decide +kernel
theorem d_HR_addPattern_32 : decode b_HR_addPattern 32 = .ok (.iload_n 2, 1) := by decide +kernel
theorem d_HR_addPattern_33 : decode b_HR_addPattern 33 = .ok (.invokestatic 165, 3) := by decide +kernel
theorem d_HR_addPattern_36 : decode b_HR_addPattern 36 = .ok (.astore_n 3, 1) := by decide +kernel
theorem d_HR_addPattern_37 : decode b_HR_addPattern 37 = .ok (.aload_n 0, 1) := by decide +kernel
theorem d_HR_addPattern_38 : decode b_HR_addPattern 38 = .ok (.getfield 30, 3) := by decide +kernel
theorem d_HR_addPattern_41 : decode b_HR_addPattern 41 = .ok (.iload_n 2, 1) := by decide +kernel
theorem d_HR_addPattern_42 : decode b_HR_addPattern 42 = .ok (.iconst 1, 1) := by decide +kernel
theorem d_HR_addPattern_43 : decode b_HR_addPattern 43 = .ok (.iadd, 1) := by decide +kernel
theorem d_HR_addPattern_44 : decode b_HR_addPattern 44 = .ok (.invokestatic 165, 3) := by decide +kernel
theorem d_HR_addPattern_47 : decode b_HR_addPattern 47 = .ok (.astore 4, 2) := by decide +kernel
theorem d_HR_addPattern_49 : decode b_HR_addPattern 49 = .ok (.aload_n 0, 1) := by decide +kernel
theorem d_HR_addPattern_50 : decode b_HR_addPattern 50 = .ok (.getfield 16, 3) := by decide +kernel
theorem d_HR_addPattern_53 : decode b_HR_addPattern 53 = .ok (.new 109, 3) := by decide +kernel
theorem d_HR_addPattern_56 : decode b_HR_addPattern 56 = .ok (.dup, 1) := by decide +kernel
theorem d_HR_addPattern_57 : decode b_HR_addPattern 57 = .ok (.iload_n 1, 1) := by decide +kernel
theorem d_HR_addPattern_58 : decode b_HR_addPattern 58 = .ok (.aload_n 3, 1) := by decide +kernel
theorem d_HR_addPattern_59 : decode b_HR_addPattern 59 = .ok (.aload 4, 2) := by decide +kernel
theorem d_HR_addPattern_61 : decode b_HR_addPattern 61 = .ok (.invokespecial 169, 3) := by decide +kernel
theorem d_HR_addPattern_64 : decode b_HR_addPattern 64 = .ok (.invokevirtual 61, 3) := by decide +kernel
theorem d_HR_addPattern_67 : decode b_HR_addPattern 67 = .ok (.pop, 1) := by decide +kernel
theorem d_HR_addPattern_68 : decode b_HR_addPattern 68 = .ok (.aload_n 0, 1) := by decide +kernel
theorem d_HR_addPattern_69 : decode b_HR_addPattern 69 = .ok (.dup, 1) := by decide +kernel
theorem d_HR_addPattern_70 : decode b_HR_addPattern 70 = .ok (.getfield 22, 3) := by decide +kernel
theorem d_HR_addPattern_73 : decode b_HR_addPattern 73 = .ok (.iload_n 2, 1) := by decide +kernel
theorem d_HR_addPattern_74 : decode b_HR_addPattern 74 = .ok (.iadd, 1) := by decide +kernel
theorem d_HR_addPattern_75 : decode b_HR_addPattern 75 = .ok (.putfield 22, 3) := by decide +kernel
theorem d_HR_addPattern_78 : decode b_HR_addPattern 78 = .ok (.aload_n 0, 1) := by decide +kernel
theorem d_HR_addPattern_79 : decode b_HR_addPattern 79 = .ok (.getfield 16, 3) := by decide +kernel
theorem d_HR_addPattern_82 : decode b_HR_addPattern 82 = .ok (.invokevirtual 54, 3) := by decide +kernel
theorem d_HR_addPattern_85 : decode b_HR_addPattern 85 = .ok (.iconst 1, 1) := by decide +kernel
theorem d_HR_addPattern_86 : decode b_HR_addPattern 86 = .ok (.isub, 1) := by decide +kernel
theorem d_HR_addPattern_87 : decode b_HR_addPattern 87 = .ok (.ireturn, 1) := by decide +kernel
theorem d_Pa_init_0 : decode b_Pa_init 0 = .ok (.aload_n 0, 1) := by decide +kernel
theorem d_Pa_init_1 : decode b_Pa_init 1 = .ok (.invokespecial 1, 3) := by decide +kernel
theorem d_Pa_init_4 : decode b_Pa_init 4 = .ok (.aload_n 0, 1) := by decide +kernel
theorem d_Pa_init_5 : decode b_Pa_init 5 = .ok (.iload_n 1, 1) := by decide +kernel
theorem d_Pa_init_6 : decode b_Pa_init 6 = .ok (.putfield 7, 3) := by decide +kernel
theorem d_Pa_init_9 : decode b_Pa_init 9 = .ok (.aload_n 0, 1) := by decide +kernel
theorem d_Pa_init_10 : decode b_Pa_init 10 = .ok (.aload_n 2, 1) := by decide +kernel
theorem d_Pa_init_11 : decode b_Pa_init 11 = .ok (.putfield 13, 3) := by decide +kernel
theorem d_Pa_init_14 : decode b_Pa_init 14 = .ok (.aload_n 0, 1) := by decide +kernel
theorem d_Pa_init_15 : decode b_Pa_init 15 = .ok (.aload_n 3, 1) := by decide +kernel
theorem d_Pa_init_16 : decode b_Pa_init 16 = .ok (.putfield 17, 3) := by decide +kernel
theorem d_Pa_init_19 : decode b_Pa_init 19 = .ok (.return_, 1) := by decide +kernel
theorem d_HR_sign_0 : decode b_HR_sign 0 = .ok (.iload_n 1, 1) := by decide +kernel
theorem d_HR_sign_1 : decode b_HR_sign 1 = .ok (.invokestatic 69, 3) := by decide +kernel
theorem d_HR_sign_4 : decode b_HR_sign 4 = .ok (.ifCond .ne 5, 3) := by decide +kernel
theorem d_HR_sign_7 : decode b_HR_sign 7 = .ok (.iconst (-1), 1) := by decide +kernel
theorem d_HR_sign_8 : decode b_HR_sign 8 = .ok (.ireturn, 1) := by decide +kernel
theorem d_HR_sign_9 : decode b_HR_sign 9 = .ok (.aload_n 0, 1) := by decide +kernel
theorem d_HR_sign_10 : decode b_HR_sign 10 = .ok (.getfield 39, 3) := by decide +kernel
theorem d_HR_sign_13 : decode b_HR_sign 13 = .ok (.bipush 30, 2) := by decide +kernel
theorem d_HR_sign_15 : decode b_HR_sign 15 = .ok (.if_icmp .lt 6, 3) := by decide +kernel
theorem d_HR_sign_18 : decode b_HR_sign 18 = .ok (.bipush (-2), 2) := by decide +kernel
theorem d_HR_sign_20 : decode b_HR_sign 20 = .ok (.ireturn, 1) := by decide +kernel
theorem d_HR_sign_21 : decode b_HR_sign 21 = .ok (.aload_n 0, 1) := by decide +kernel
theorem d_HR_sign_22 : decode b_HR_sign 22 = .ok (.getfield 36, 3) := by decide +kernel
theorem d_HR_sign_25 : decode b_HR_sign 25 = .ok (.aload_n 0, 1) := by decide +kernel
theorem d_HR_sign_26 : decode b_HR_sign 26 = .ok (.getfield 39, 3) := by decide +kernel
theorem d_HR_sign_29 : decode b_HR_sign 29 = .ok (.iload_n 1, 1) := by decide +kernel
theorem d_HR_sign_30 : decode b_HR_sign 30 = .ok (.iastore, 1) := by decide +kernel
theorem d_HR_sign_31 : decode b_HR_sign 31 = .ok (.aload_n 0, 1) := by decide +kernel
theorem d_HR_sign_32 : decode b_HR_sign 32 = .ok (.dup, 1) := by decide +kernel
theorem d_HR_sign_33 : decode b_HR_sign 33 = .ok (.getfield 39, 3) := by decide +kernel
theorem d_HR_sign_36 : decode b_HR_sign 36 = .ok (.iconst 1, 1) := by decide +kernel
theorem d_HR_sign_37 : decode b_HR_sign 37 = .ok (.iadd, 1) := by decide +kernel
theorem d_HR_sign_38 : decode b_HR_sign 38 = .ok (.putfield 39, 3) := by decide +kernel
theorem d_HR_sign_41 : decode b_HR_sign 41 = .ok (.aload_n 0, 1) := by decide +kernel
theorem d_HR_sign_42 : decode b_HR_sign 42 = .ok (.getfield 39, 3) := by decide +kernel
theorem d_HR_sign_45 : decode b_HR_sign 45 = .ok (.ireturn, 1) := by decide +kernel
theorem d_HR_clear_0 : decode b_HR_clear 0 = .ok (.aload_n 0, 1) := by decide +kernel
theorem d_HR_clear_1 : decode b_HR_clear 1 = .ok (.getfield 39, 3) := by decide +kernel
theorem d_HR_clear_4 : decode b_HR_clear 4 = .ok (.istore_n 1, 1) := by decide +kernel
theorem d_HR_clear_5 : decode b_HR_clear 5 = .ok (.aload_n 0, 1) := by decide +kernel
theorem d_HR_clear_6 : decode b_HR_clear 6 = .ok (.iconst 0, 1) := by decide +kernel
theorem d_HR_clear_7 : decode b_HR_clear 7 = .ok (.putfield 39, 3) := by decide +kernel
theorem d_HR_clear_10 : decode b_HR_clear 10 = .ok (.iload_n 1, 1) := by decide +kernel
theorem d_HR_clear_11 : decode b_HR_clear 11 = .ok (.ireturn, 1) := by decide +kernel
theorem d_HR_exception_0 : decode b_HR_exception 0 = .ok (.aload_n 0, 1) := by decide +kernel
theorem d_HR_exception_1 : decode b_HR_exception 1 = .ok (.iload_n 1, 1) := by decide +kernel
theorem d_HR_exception_2 : decode b_HR_exception 2 = .ok (.invokevirtual 65, 3) := by decide +kernel
theorem d_HR_exception_5 : decode b_HR_exception 5 = .ok (.ifCond .ne 5, 3) := by decide +kernel
theorem d_HR_exception_8 : decode b_HR_exception 8 = .ok (.iconst (-1), 1) := by decide +kernel
theorem d_HR_exception_9 : decode b_HR_exception 9 = .ok (.ireturn, 1) := by decide +kernel
theorem d_HR_exception_10 : decode b_HR_exception 10 = .ok (.aload_n 0, 1) := by decide +kernel
theorem d_HR_exception_11 : decode b_HR_exception 11 = .ok (.getfield 39, 3) := by decide +kernel
theorem d_HR_exception_14 : decode b_HR_exception 14 = .ok (.ifCond .eq 21, 3) := by decide +kernel
theorem d_HR_exception_17 : decode b_HR_exception 17 = .ok (.aload_n 0, 1) := by decide +kernel
theorem d_HR_exception_18 : decode b_HR_exception 18 = .ok (.aload_n 0, 1) := by decide +kernel
theorem d_HR_exception_19 : decode b_HR_exception 19 = .ok (.getfield 10, 3) := by decide +kernel
theorem d_HR_exception_22 : decode b_HR_exception 22 = .ok (.iload_n 1, 1) := by decide +kernel
theorem d_HR_exception_23 : decode b_HR_exception 23 = .ok (.invokevirtual 75, 3) := by decide +kernel
theorem d_HR_exception_26 : decode b_HR_exception 26 = .ok (.checkcast 58, 3) := by decide +kernel
theorem d_HR_exception_29 : decode b_HR_exception 29 = .ok (.invokevirtual 123, 3) := by decide +kernel
theorem d_HR_exception_32 : decode b_HR_exception 32 = .ok (.ifCond .ne 6, 3) := by decide +kernel
theorem d_HR_exception_35 : decode b_HR_exception 35 = .ok (.bipush (-3), 2) := by decide +kernel
theorem d_HR_exception_37 : decode b_HR_exception 37 = .ok (.ireturn, 1) := by decide +kernel
theorem d_HR_exception_38 : decode b_HR_exception 38 = .ok (.aload_n 0, 1) := by decide +kernel
theorem d_HR_exception_39 : decode b_HR_exception 39 = .ok (.iload_n 1, 1) := by decide +kernel
theorem d_HR_exception_40 : decode b_HR_exception 40 = .ok (.invokevirtual 127, 3) := by decide +kernel
theorem d_HR_exception_43 : decode b_HR_exception 43 = .ok (.istore_n 3, 1) := by decide +kernel
theorem d_HR_exception_44 : decode b_HR_exception 44 = .ok (.iload_n 3, 1) := by decide +kernel
theorem d_HR_exception_45 : decode b_HR_exception 45 = .ok (.iconst (-1), 1) := by decide +kernel
theorem d_HR_exception_46 : decode b_HR_exception 46 = .ok (.if_icmp .eq 20, 3) := by decide +kernel
theorem d_HR_exception_49 : decode b_HR_exception 49 = .ok (.aload_n 0, 1) := by decide +kernel
theorem d_HR_exception_50 : decode b_HR_exception 50 = .ok (.getfield 19, 3) := by decide +kernel
theorem d_HR_exception_53 : decode b_HR_exception 53 = .ok (.iload_n 3, 1) := by decide +kernel
theorem d_HR_exception_54 : decode b_HR_exception 54 = .ok (.invokevirtual 75, 3) := by decide +kernel
theorem d_HR_exception_57 : decode b_HR_exception 57 = .ok (.checkcast 131, 3) := by decide +kernel
theorem d_HR_exception_60 : decode b_HR_exception 60 = .ok (.iload_n 2, 1) := by decide +kernel
theorem d_HR_exception_61 : decode b_HR_exception 61 = .ok (.putfield 133, 3) := by decide +kernel
theorem d_HR_exception_64 : decode b_HR_exception 64 = .ok (.iload_n 3, 1) := by decide +kernel
theorem d_HR_exception_65 : decode b_HR_exception 65 = .ok (.ireturn, 1) := by decide +kernel
theorem d_HR_exception_66 : decode b_HR_exception 66 = .ok (.aload_n 0, 1) := by decide +kernel
theorem d_HR_exception_67 : decode b_HR_exception 67 = .ok (.getfield 19, 3) := by decide +kernel
theorem d_HR_exception_70 : decode b_HR_exception 70 = .ok (.invokevirtual 54, 3) := by decide +kernel
theorem d_HR_exception_73 : decode b_HR_exception 73 = .ok (.bipush 40, 2) := by decide +kernel
theorem d_HR_exception_75 : decode b_HR_exception 75 = .ok (.if_icmp .lt 6, 3) := by decide +kernel
theorem d_HR_exception_78 : decode b_HR_exception 78 = .ok (.bipush (-2), 2) := by decide +kernel
theorem d_HR_exception_80 : decode b_HR_exception 80 = .ok (.ireturn, 1) := by decide +kernel
theorem d_HR_exception_81 : decode b_HR_exception 81 = .ok (.aload_n 0, 1) := by decide +kernel
theorem d_HR_exception_82 : decode b_HR_exception 82 = .ok (.getfield 19, 3) := by decide +kernel
theorem d_HR_exception_85 : decode b_HR_exception 85 = .ok (.new 131, 3) := by decide +kernel
theorem d_HR_exception_88 : decode b_HR_exception 88 = .ok (.dup, 1) := by decide +kernel
theorem d_HR_exception_89 : decode b_HR_exception 89 = .ok (.iload_n 1, 1) := by decide +kernel
theorem d_HR_exception_90 : decode b_HR_exception 90 = .ok (.aload_n 0, 1) := by decide +kernel
theorem d_HR_exception_91 : decode b_HR_exception 91 = .ok (.getfield 42, 3) := by decide +kernel
theorem d_HR_exception_94 : decode b_HR_exception 94 = .ok (.iconst 1, 1) := by decide +kernel
theorem d_HR_exception_95 : decode b_HR_exception 95 = .ok (.aload_n 0, 1) := by decide +kernel
theorem d_HR_exception_96 : decode b_HR_exception 96 = .ok (.getfield 39, 3) := by decide +kernel
theorem d_HR_exception_99 : decode b_HR_exception 99 = .ok (.iconst 1, 1) := by decide +kernel
theorem d_HR_exception_100 : decode b_HR_exception 100 = .ok (.iadd, 1) := by decide +kernel
theorem d_HR_exception_101 : decode b_HR_exception 101 = .ok (.invokestatic 136, 3) := by decide +kernel
theorem d_HR_exception_104 : decode b_HR_exception 104 = .ok (.iload_n 2, 1) := by decide +kernel
theorem d_HR_exception_105 : decode b_HR_exception 105 = .ok (.invokespecial 142, 3) := by decide +kernel
theorem d_HR_exception_108 : decode b_HR_exception 108 = .ok (.invokevirtual 61, 3) := by decide +kernel
theorem d_HR_exception_111 : decode b_HR_exception 111 = .ok (.pop, 1) := by decide +kernel
theorem d_HR_exception_112 : decode b_HR_exception 112 = .ok (.aload_n 0, 1) := by decide +kernel
theorem d_HR_exception_113 : decode b_HR_exception 113 = .ok (.getfield 19, 3) := by decide +kernel
theorem d_HR_exception_116 : decode b_HR_exception 116 = .ok (.invokevirtual 54, 3) := by decide +kernel
theorem d_HR_exception_119 : decode b_HR_exception 119 = .ok (.iconst 1, 1) := by decide +kernel
theorem d_HR_exception_120 : decode b_HR_exception 120 = .ok (.isub, 1) := by decide +kernel
theorem d_HR_exception_121 : decode b_HR_exception 121 = .ok (.ireturn, 1) := by decide +kernel
theorem d_HR_spellWord_0 : decode b_HR_spellWord 0 = .ok (.aload_n 0, 1) := by decide +kernel
theorem d_HR_spellWord_1 : decode b_HR_spellWord 1 = .ok (.getfield 42, 3) := by decide +kernel
theorem d_HR_spellWord_4 : decode b_HR_spellWord 4 = .ok (.iconst 0, 1) := by decide +kernel
theorem d_HR_spellWord_5 : decode b_HR_spellWord 5 = .ok (.iconst 0, 1) := by decide +kernel
theorem d_HR_spellWord_6 : decode b_HR_spellWord 6 = .ok (.iastore, 1) := by decide +kernel
theorem d_HR_spellWord_7 : decode b_HR_spellWord 7 = .ok (.iconst 0, 1) := by decide +kernel
theorem d_HR_spellWord_8 : decode b_HR_spellWord 8 = .ok (.istore_n 2, 1) := by decide +kernel
theorem d_HR_spellWord_9 : decode b_HR_spellWord 9 = .ok (.iload_n 2, 1) := by decide +kernel
theorem d_HR_spellWord_10 : decode b_HR_spellWord 10 = .ok (.aload_n 0, 1) := by decide +kernel
theorem d_HR_spellWord_11 : decode b_HR_spellWord 11 = .ok (.getfield 39, 3) := by decide +kernel
theorem d_HR_spellWord_14 : decode b_HR_spellWord 14 = .ok (.if_icmp .ge 36, 3) := by decide +kernel
theorem d_HR_spellWord_17 : decode b_HR_spellWord 17 = .ok (.aload_n 1, 1) := by decide +kernel
theorem d_HR_spellWord_18 : decode b_HR_spellWord 18 = .ok (.getfield 79, 3) := by decide +kernel
theorem d_HR_spellWord_21 : decode b_HR_spellWord 21 = .ok (.aload_n 0, 1) := by decide +kernel
theorem d_HR_spellWord_22 : decode b_HR_spellWord 22 = .ok (.getfield 36, 3) := by decide +kernel
theorem d_HR_spellWord_25 : decode b_HR_spellWord 25 = .ok (.iload_n 2, 1) := by decide +kernel
theorem d_HR_spellWord_26 : decode b_HR_spellWord 26 = .ok (.iaload, 1) := by decide +kernel
theorem d_HR_spellWord_27 : decode b_HR_spellWord 27 = .ok (.iaload, 1) := by decide +kernel
theorem d_HR_spellWord_28 : decode b_HR_spellWord 28 = .ok (.istore_n 3, 1) := by decide +kernel
theorem d_HR_spellWord_29 : decode b_HR_spellWord 29 = .ok (.iload_n 3, 1) := by decide +kernel
theorem d_HR_spellWord_30 : decode b_HR_spellWord 30 = .ok (.ifCond .ne 5, 3) := by decide +kernel
theorem d_HR_spellWord_33 : decode b_HR_spellWord 33 = .ok (.iconst 0, 1) := by decide +kernel
theorem d_HR_spellWord_34 : decode b_HR_spellWord 34 = .ok (.ireturn, 1) := by decide +kernel
theorem d_HR_spellWord_35 : decode b_HR_spellWord 35 = .ok (.aload_n 0, 1) := by decide +kernel
theorem d_HR_spellWord_36 : decode b_HR_spellWord 36 = .ok (.getfield 42, 3) := by decide +kernel
theorem d_HR_spellWord_39 : decode b_HR_spellWord 39 = .ok (.iload_n 2, 1) := by decide +kernel
theorem d_HR_spellWord_40 : decode b_HR_spellWord 40 = .ok (.iconst 1, 1) := by decide +kernel
theorem d_HR_spellWord_41 : decode b_HR_spellWord 41 = .ok (.iadd, 1) := by decide +kernel
theorem d_HR_spellWord_42 : decode b_HR_spellWord 42 = .ok (.iload_n 3, 1) := by decide +kernel
theorem d_HR_spellWord_43 : decode b_HR_spellWord 43 = .ok (.iastore, 1) := by decide +kernel
theorem d_HR_spellWord_44 : decode b_HR_spellWord 44 = .ok (.iinc 2 1, 3) := by decide +kernel
theorem d_HR_spellWord_47 : decode b_HR_spellWord 47 = .ok (.goto (-38), 3) := by decide +kernel
theorem d_HR_spellWord_50 : decode b_HR_spellWord 50 = .ok (.aload_n 0, 1) := by decide +kernel
theorem d_HR_spellWord_51 : decode b_HR_spellWord 51 = .ok (.getfield 42, 3) := by decide +kernel
theorem d_HR_spellWord_54 : decode b_HR_spellWord 54 = .ok (.aload_n 0, 1) := by decide +kernel
theorem d_HR_spellWord_55 : decode b_HR_spellWord 55 = .ok (.getfield 39, 3) := by decide +kernel
theorem d_HR_spellWord_58 : decode b_HR_spellWord 58 = .ok (.iconst 1, 1) := by decide +kernel
theorem d_HR_spellWord_59 : decode b_HR_spellWord 59 = .ok (.iadd, 1) := by decide +kernel
theorem d_HR_spellWord_60 : decode b_HR_spellWord 60 = .ok (.iconst 0, 1) := by decide +kernel
theorem d_HR_spellWord_61 : decode b_HR_spellWord 61 = .ok (.iastore, 1) := by decide +kernel
theorem d_HR_spellWord_62 : decode b_HR_spellWord 62 = .ok (.iconst 1, 1) := by decide +kernel
theorem d_HR_spellWord_63 : decode b_HR_spellWord 63 = .ok (.ireturn, 1) := by decide +kernel
theorem d_HR_exceptionWithWordsLetters_0 : decode b_HR_exceptionWithWordsLetters 0 = .ok (.iconst 0, 1) := by decide +kernel
theorem d_HR_exceptionWithWordsLetters_1 : decode b_HR_exceptionWithWordsLetters 1 = .ok (.istore_n 2, 1) := by decide +kernel
theorem d_HR_exceptionWithWordsLetters_2 : decode b_HR_exceptionWithWordsLetters 2 = .ok (.iload_n 2, 1) := by decide +kernel
theorem d_HR_exceptionWithWordsLetters_3 : decode b_HR_exceptionWithWordsLetters 3 = .ok (.aload_n 0, 1) := by decide +kernel
theorem d_HR_exceptionWithWordsLetters_4 : decode b_HR_exceptionWithWordsLetters 4 = .ok (.getfield 19, 3) := by decide +kernel
theorem d_HR_exceptionWithWordsLetters_7 : decode b_HR_exceptionWithWordsLetters 7 = .ok (.invokevirtual 54, 3) := by decide +kernel
theorem d_HR_exceptionWithWordsLetters_10 : decode b_HR_exceptionWithWordsLetters 10 = .ok (.if_icmp .ge 58, 3) := by decide +kernel
theorem d_HR_exceptionWithWordsLetters_13 : decode b_HR_exceptionWithWordsLetters 13 = .ok (.aload_n 0, 1) := by decide +kernel
theorem d_HR_exceptionWithWordsLetters_14 : decode b_HR_exceptionWithWordsLetters 14 = .ok (.getfield 19, 3) := by decide +kernel
theorem d_HR_exceptionWithWordsLetters_17 : decode b_HR_exceptionWithWordsLetters 17 = .ok (.iload_n 2, 1) := by decide +kernel
theorem d_HR_exceptionWithWordsLetters_18 : decode b_HR_exceptionWithWordsLetters 18 = .ok (.invokevirtual 75, 3) := by decide +kernel
theorem d_HR_exceptionWithWordsLetters_21 : decode b_HR_exceptionWithWordsLetters 21 = .ok (.checkcast 131, 3) := by decide +kernel
theorem d_HR_exceptionWithWordsLetters_24 : decode b_HR_exceptionWithWordsLetters 24 = .ok (.astore_n 3, 1) := by decide +kernel
theorem d_HR_exceptionWithWordsLetters_25 : decode b_HR_exceptionWithWordsLetters 25 = .ok (.aload_n 3, 1) := by decide +kernel
theorem d_HR_exceptionWithWordsLetters_26 : decode b_HR_exceptionWithWordsLetters 26 = .ok (.getfield 172, 3) := by decide +kernel
theorem d_HR_exceptionWithWordsLetters_29 : decode b_HR_exceptionWithWordsLetters 29 = .ok (.iload_n 1, 1) := by decide +kernel
theorem d_HR_exceptionWithWordsLetters_30 : decode b_HR_exceptionWithWordsLetters 30 = .ok (.if_icmp .ne 32, 3) := by decide +kernel
theorem d_HR_exceptionWithWordsLetters_33 : decode b_HR_exceptionWithWordsLetters 33 = .ok (.aload_n 3, 1) := by decide +kernel
theorem d_HR_exceptionWithWordsLetters_34 : decode b_HR_exceptionWithWordsLetters 34 = .ok (.getfield 173, 3) := by decide +kernel
theorem d_HR_exceptionWithWordsLetters_37 : decode b_HR_exceptionWithWordsLetters 37 = .ok (.arraylength, 1) := by decide +kernel
theorem d_HR_exceptionWithWordsLetters_38 : decode b_HR_exceptionWithWordsLetters 38 = .ok (.aload_n 0, 1) := by decide +kernel
theorem d_HR_exceptionWithWordsLetters_39 : decode b_HR_exceptionWithWordsLetters 39 = .ok (.getfield 39, 3) := by decide +kernel
theorem d_HR_exceptionWithWordsLetters_42 : decode b_HR_exceptionWithWordsLetters 42 = .ok (.if_icmp .ne 20, 3) := by decide +kernel
theorem d_HR_exceptionWithWordsLetters_45 : decode b_HR_exceptionWithWordsLetters 45 = .ok (.aload_n 3, 1) := by decide +kernel
theorem d_HR_exceptionWithWordsLetters_46 : decode b_HR_exceptionWithWordsLetters 46 = .ok (.getfield 173, 3) := by decide +kernel
theorem d_HR_exceptionWithWordsLetters_49 : decode b_HR_exceptionWithWordsLetters 49 = .ok (.aload_n 0, 1) := by decide +kernel
theorem d_HR_exceptionWithWordsLetters_50 : decode b_HR_exceptionWithWordsLetters 50 = .ok (.getfield 42, 3) := by decide +kernel
theorem d_HR_exceptionWithWordsLetters_53 : decode b_HR_exceptionWithWordsLetters 53 = .ok (.iconst 1, 1) := by decide +kernel
theorem d_HR_exceptionWithWordsLetters_54 : decode b_HR_exceptionWithWordsLetters 54 = .ok (.invokestatic 161, 3) := by decide +kernel
theorem d_HR_exceptionWithWordsLetters_57 : decode b_HR_exceptionWithWordsLetters 57 = .ok (.ifCond .eq 5, 3) := by decide +kernel
theorem d_HR_exceptionWithWordsLetters_60 : decode b_HR_exceptionWithWordsLetters 60 = .ok (.iload_n 2, 1) := by decide +kernel
theorem d_HR_exceptionWithWordsLetters_61 : decode b_HR_exceptionWithWordsLetters 61 = .ok (.ireturn, 1) := by decide +kernel
theorem d_HR_exceptionWithWordsLetters_62 : decode b_HR_exceptionWithWordsLetters 62 = .ok (.iinc 2 1, 3) := by decide +kernel
theorem d_HR_exceptionWithWordsLetters_65 : decode b_HR_exceptionWithWordsLetters 65 = .ok (.goto (-63), 3) := by decide +kernel
theorem d_HR_exceptionWithWordsLetters_68 : decode b_HR_exceptionWithWordsLetters 68 = .ok (.iconst (-1), 1) := by decide +kernel
theorem d_HR_exceptionWithWordsLetters_69 : decode b_HR_exceptionWithWordsLetters 69 = .ok (.ireturn, 1) := by decide +kernel
theorem d_To_init_0 : decode b_To_init 0 = .ok (.aload_n 0, 1) := by decide +kernel
theorem d_To_init_1 : decode b_To_init 1 = .ok (.invokespecial 1, 3) := by decide +kernel
theorem d_To_init_4 : decode b_To_init 4 = .ok (.aload_n 0, 1) := by decide +kernel
theorem d_To_init_5 : decode b_To_init 5 = .ok (.iload_n 1, 1) := by decide +kernel
theorem d_To_init_6 : decode b_To_init 6 = .ok (.putfield 7, 3) := by decide +kernel
theorem d_To_init_9 : decode b_To_init 9 = .ok (.aload_n 0, 1) := by decide +kernel
theorem d_To_init_10 : decode b_To_init 10 = .ok (.aload_n 2, 1) := by decide +kernel
theorem d_To_init_11 : decode b_To_init 11 = .ok (.putfield 13, 3) := by decide +kernel
theorem d_To_init_14 : decode b_To_init 14 = .ok (.aload_n 0, 1) := by decide +kernel
theorem d_To_init_15 : decode b_To_init 15 = .ok (.iload_n 3, 1) := by decide +kernel
theorem d_To_init_16 : decode b_To_init 16 = .ok (.putfield 17, 3) := by decide +kernel
theorem d_To_init_19 : decode b_To_init 19 = .ok (.return_, 1) := by decide +kernel
theorem d_HR_drop_0 : decode b_HR_drop 0 = .ok (.iload_n 1, 1) := by decide +kernel
theorem d_HR_drop_1 : decode b_HR_drop 1 = .ok (.ifCond .lt 14, 3) := by decide +kernel
theorem d_HR_drop_4 : decode b_HR_drop 4 = .ok (.iload_n 1, 1) := by decide +kernel
theorem d_HR_drop_5 : decode b_HR_drop 5 = .ok (.aload_n 0, 1) := by decide +kernel
theorem d_HR_drop_6 : decode b_HR_drop 6 = .ok (.getfield 19, 3) := by decide +kernel
theorem d_HR_drop_9 : decode b_HR_drop 9 = .ok (.invokevirtual 54, 3) := by decide +kernel
theorem d_HR_drop_12 : decode b_HR_drop 12 = .ok (.if_icmp .lt 5, 3) := by decide +kernel
theorem d_HR_drop_15 : decode b_HR_drop 15 = .ok (.iconst (-1), 1) := by decide +kernel
theorem d_HR_drop_16 : decode b_HR_drop 16 = .ok (.ireturn, 1) := by decide +kernel
theorem d_HR_drop_17 : decode b_HR_drop 17 = .ok (.aload_n 0, 1) := by decide +kernel
theorem d_HR_drop_18 : decode b_HR_drop 18 = .ok (.getfield 19, 3) := by decide +kernel
theorem d_HR_drop_21 : decode b_HR_drop 21 = .ok (.iload_n 1, 1) := by decide +kernel
theorem d_HR_drop_22 : decode b_HR_drop 22 = .ok (.invokevirtual 145, 3) := by decide +kernel
theorem d_HR_drop_25 : decode b_HR_drop 25 = .ok (.pop, 1) := by decide +kernel
theorem d_HR_drop_26 : decode b_HR_drop 26 = .ok (.iconst 1, 1) := by decide +kernel
theorem d_HR_drop_27 : decode b_HR_drop 27 = .ok (.ireturn, 1) := by decide +kernel
theorem d_HR_run_0 : decode b_HR_run 0 = .ok (.aload_n 0, 1) := by decide +kernel
theorem d_HR_run_1 : decode b_HR_run 1 = .ok (.iload_n 1, 1) := by decide +kernel
theorem d_HR_run_2 : decode b_HR_run 2 = .ok (.invokevirtual 65, 3) := by decide +kernel
theorem d_HR_run_5 : decode b_HR_run 5 = .ok (.ifCond .ne 5, 3) := by decide +kernel
theorem d_HR_run_8 : decode b_HR_run 8 = .ok (.iconst (-1), 1) := by decide +kernel
theorem d_HR_run_9 : decode b_HR_run 9 = .ok (.ireturn, 1) := by decide +kernel
theorem d_HR_run_10 : decode b_HR_run 10 = .ok (.aload_n 0, 1) := by decide +kernel
theorem d_HR_run_11 : decode b_HR_run 11 = .ok (.iconst 0, 1) := by decide +kernel
theorem d_HR_run_12 : decode b_HR_run 12 = .ok (.putfield 51, 3) := by decide +kernel
theorem d_HR_run_15 : decode b_HR_run 15 = .ok (.aload_n 0, 1) := by decide +kernel
theorem d_HR_run_16 : decode b_HR_run 16 = .ok (.getfield 10, 3) := by decide +kernel
theorem d_HR_run_19 : decode b_HR_run 19 = .ok (.iload_n 1, 1) := by decide +kernel
theorem d_HR_run_20 : decode b_HR_run 20 = .ok (.invokevirtual 75, 3) := by decide +kernel
theorem d_HR_run_23 : decode b_HR_run 23 = .ok (.checkcast 58, 3) := by decide +kernel
theorem d_HR_run_26 : decode b_HR_run 26 = .ok (.astore_n 2, 1) := by decide +kernel
theorem d_HR_run_27 : decode b_HR_run 27 = .ok (.aload_n 0, 1) := by decide +kernel
theorem d_HR_run_28 : decode b_HR_run 28 = .ok (.aload_n 2, 1) := by decide +kernel
theorem d_HR_run_29 : decode b_HR_run 29 = .ok (.invokevirtual 148, 3) := by decide +kernel
theorem d_HR_run_32 : decode b_HR_run 32 = .ok (.ifCond .ne 11, 3) := by decide +kernel
theorem d_HR_run_35 : decode b_HR_run 35 = .ok (.aload_n 0, 1) := by decide +kernel
theorem d_HR_run_36 : decode b_HR_run 36 = .ok (.aload_n 2, 1) := by decide +kernel
theorem d_HR_run_37 : decode b_HR_run 37 = .ok (.invokevirtual 123, 3) := by decide +kernel
theorem d_HR_run_40 : decode b_HR_run 40 = .ok (.ifCond .ne 5, 3) := by decide +kernel
theorem d_HR_run_43 : decode b_HR_run 43 = .ok (.iconst 0, 1) := by decide +kernel
theorem d_HR_run_44 : decode b_HR_run 44 = .ok (.ireturn, 1) := by decide +kernel
theorem d_HR_run_45 : decode b_HR_run 45 = .ok (.aload_n 0, 1) := by decide +kernel
theorem d_HR_run_46 : decode b_HR_run 46 = .ok (.iload_n 1, 1) := by decide +kernel
theorem d_HR_run_47 : decode b_HR_run 47 = .ok (.invokevirtual 151, 3) := by decide +kernel
theorem d_HR_run_50 : decode b_HR_run 50 = .ok (.iconst 1, 1) := by decide +kernel
theorem d_HR_run_51 : decode b_HR_run 51 = .ok (.istore_n 3, 1) := by decide +kernel
theorem d_HR_run_52 : decode b_HR_run 52 = .ok (.iload_n 3, 1) := by decide +kernel
theorem d_HR_run_53 : decode b_HR_run 53 = .ok (.aload_n 0, 1) := by decide +kernel
theorem d_HR_run_54 : decode b_HR_run 54 = .ok (.getfield 39, 3) := by decide +kernel
theorem d_HR_run_57 : decode b_HR_run 57 = .ok (.if_icmp .ge 76, 3) := by decide +kernel
theorem d_HR_run_60 : decode b_HR_run 60 = .ok (.iload_n 3, 1) := by decide +kernel
theorem d_HR_run_61 : decode b_HR_run 61 = .ok (.aload_n 2, 1) := by decide +kernel
theorem d_HR_run_62 : decode b_HR_run 62 = .ok (.getfield 89, 3) := by decide +kernel
theorem d_HR_run_65 : decode b_HR_run 65 = .ok (.if_icmp .lt 20, 3) := by decide +kernel
theorem d_HR_run_68 : decode b_HR_run 68 = .ok (.iload_n 3, 1) := by decide +kernel
theorem d_HR_run_69 : decode b_HR_run 69 = .ok (.aload_n 0, 1) := by decide +kernel
theorem d_HR_run_70 : decode b_HR_run 70 = .ok (.getfield 39, 3) := by decide +kernel
theorem d_HR_run_73 : decode b_HR_run 73 = .ok (.aload_n 2, 1) := by decide +kernel
theorem d_HR_run_74 : decode b_HR_run 74 = .ok (.getfield 92, 3) := by decide +kernel
theorem d_HR_run_77 : decode b_HR_run 77 = .ok (.isub, 1) := by decide +kernel
theorem d_HR_run_78 : decode b_HR_run 78 = .ok (.if_icmp .gt 7, 3) := by decide +kernel
theorem d_HR_run_81 : decode b_HR_run 81 = .ok (.iconst 1, 1) := by decide +kernel
theorem d_HR_run_82 : decode b_HR_run 82 = .ok (.goto 4, 3) := by decide +kernel
theorem d_HR_run_85 : decode b_HR_run 85 = .ok (.iconst 0, 1) := by decide +kernel
theorem d_HR_run_86 : decode b_HR_run 86 = .ok (.istore 4, 2) := by decide +kernel
theorem d_HR_run_88 : decode b_HR_run 88 = .ok (.iload 4, 2) := by decide +kernel
theorem d_HR_run_90 : decode b_HR_run 90 = .ok (.ifCond .eq 37, 3) := by decide +kernel
theorem d_HR_run_93 : decode b_HR_run 93 = .ok (.aload_n 0, 1) := by decide +kernel
theorem d_HR_run_94 : decode b_HR_run 94 = .ok (.getfield 45, 3) := by decide +kernel
theorem d_HR_run_97 : decode b_HR_run 97 = .ok (.iload_n 3, 1) := by decide +kernel
theorem d_HR_run_98 : decode b_HR_run 98 = .ok (.iconst 1, 1) := by decide +kernel
theorem d_HR_run_99 : decode b_HR_run 99 = .ok (.iadd, 1) := by decide +kernel
theorem d_HR_run_100 : decode b_HR_run 100 = .ok (.iaload, 1) := by decide +kernel
theorem d_HR_run_101 : decode b_HR_run 101 = .ok (.iconst 2, 1) := by decide +kernel
theorem d_HR_run_102 : decode b_HR_run 102 = .ok (.irem, 1) := by decide +kernel
theorem d_HR_run_103 : decode b_HR_run 103 = .ok (.iconst 1, 1) := by decide +kernel
theorem d_HR_run_104 : decode b_HR_run 104 = .ok (.if_icmp .ne 23, 3) := by decide +kernel
theorem d_HR_run_107 : decode b_HR_run 107 = .ok (.aload_n 0, 1) := by decide +kernel
theorem d_HR_run_108 : decode b_HR_run 108 = .ok (.getfield 48, 3) := by decide +kernel
theorem d_HR_run_111 : decode b_HR_run 111 = .ok (.aload_n 0, 1) := by decide +kernel
theorem d_HR_run_112 : decode b_HR_run 112 = .ok (.getfield 51, 3) := by decide +kernel
theorem d_HR_run_115 : decode b_HR_run 115 = .ok (.iload_n 3, 1) := by decide +kernel
theorem d_HR_run_116 : decode b_HR_run 116 = .ok (.iastore, 1) := by decide +kernel
theorem d_HR_run_117 : decode b_HR_run 117 = .ok (.aload_n 0, 1) := by decide +kernel
theorem d_HR_run_118 : decode b_HR_run 118 = .ok (.dup, 1) := by decide +kernel
theorem d_HR_run_119 : decode b_HR_run 119 = .ok (.getfield 51, 3) := by decide +kernel
theorem d_HR_run_122 : decode b_HR_run 122 = .ok (.iconst 1, 1) := by decide +kernel
theorem d_HR_run_123 : decode b_HR_run 123 = .ok (.iadd, 1) := by decide +kernel
theorem d_HR_run_124 : decode b_HR_run 124 = .ok (.putfield 51, 3) := by decide +kernel
theorem d_HR_run_127 : decode b_HR_run 127 = .ok (.iinc 3 1, 3) := by decide +kernel
theorem d_HR_run_130 : decode b_HR_run 130 = .ok (.goto (-78), 3) := by decide +kernel
theorem d_HR_run_133 : decode b_HR_run 133 = .ok (.aload_n 0, 1) := by decide +kernel
theorem d_HR_run_134 : decode b_HR_run 134 = .ok (.getfield 51, 3) := by decide +kernel
theorem d_HR_run_137 : decode b_HR_run 137 = .ok (.ireturn, 1) := by decide +kernel
theorem d_HR_staysWhole_0 : decode b_HR_staysWhole 0 = .ok (.aload_n 0, 1) := by decide +kernel
theorem d_HR_staysWhole_1 : decode b_HR_staysWhole 1 = .ok (.getfield 39, 3) := by decide +kernel
theorem d_HR_staysWhole_4 : decode b_HR_staysWhole 4 = .ok (.ifCond .le 28, 3) := by decide +kernel
theorem d_HR_staysWhole_7 : decode b_HR_staysWhole 7 = .ok (.aload_n 1, 1) := by decide +kernel
theorem d_HR_staysWhole_8 : decode b_HR_staysWhole 8 = .ok (.getfield 95, 3) := by decide +kernel
theorem d_HR_staysWhole_11 : decode b_HR_staysWhole 11 = .ok (.ifCond .eq 21, 3) := by decide +kernel
theorem d_HR_staysWhole_14 : decode b_HR_staysWhole 14 = .ok (.aload_n 1, 1) := by decide +kernel
theorem d_HR_staysWhole_15 : decode b_HR_staysWhole 15 = .ok (.getfield 82, 3) := by decide +kernel
theorem d_HR_staysWhole_18 : decode b_HR_staysWhole 18 = .ok (.aload_n 0, 1) := by decide +kernel
theorem d_HR_staysWhole_19 : decode b_HR_staysWhole 19 = .ok (.getfield 36, 3) := by decide +kernel
theorem d_HR_staysWhole_22 : decode b_HR_staysWhole 22 = .ok (.iconst 0, 1) := by decide +kernel
theorem d_HR_staysWhole_23 : decode b_HR_staysWhole 23 = .ok (.iaload, 1) := by decide +kernel
theorem d_HR_staysWhole_24 : decode b_HR_staysWhole 24 = .ok (.baload, 1) := by decide +kernel
theorem d_HR_staysWhole_25 : decode b_HR_staysWhole 25 = .ok (.ifCond .eq 7, 3) := by decide +kernel
theorem d_HR_staysWhole_28 : decode b_HR_staysWhole 28 = .ok (.iconst 1, 1) := by decide +kernel
theorem d_HR_staysWhole_29 : decode b_HR_staysWhole 29 = .ok (.goto 4, 3) := by decide +kernel
theorem d_HR_staysWhole_32 : decode b_HR_staysWhole 32 = .ok (.iconst 0, 1) := by decide +kernel
theorem d_HR_staysWhole_33 : decode b_HR_staysWhole 33 = .ok (.ireturn, 1) := by decide +kernel
theorem d_HR_findRowDigits_0 : decode b_HR_findRowDigits 0 = .ok (.aload_n 0, 1) := by decide +kernel
theorem d_HR_findRowDigits_1 : decode b_HR_findRowDigits 1 = .ok (.getfield 45, 3) := by decide +kernel
theorem d_HR_findRowDigits_4 : decode b_HR_findRowDigits 4 = .ok (.iconst 0, 1) := by decide +kernel
theorem d_HR_findRowDigits_5 : decode b_HR_findRowDigits 5 = .ok (.invokestatic 174, 3) := by decide +kernel
theorem d_HR_findRowDigits_8 : decode b_HR_findRowDigits 8 = .ok (.aload_n 0, 1) := by decide +kernel
theorem d_HR_findRowDigits_9 : decode b_HR_findRowDigits 9 = .ok (.iload_n 1, 1) := by decide +kernel
theorem d_HR_findRowDigits_10 : decode b_HR_findRowDigits 10 = .ok (.invokevirtual 127, 3) := by decide +kernel
theorem d_HR_findRowDigits_13 : decode b_HR_findRowDigits 13 = .ok (.istore_n 2, 1) := by decide +kernel
theorem d_HR_findRowDigits_14 : decode b_HR_findRowDigits 14 = .ok (.iload_n 2, 1) := by decide +kernel
theorem d_HR_findRowDigits_15 : decode b_HR_findRowDigits 15 = .ok (.iconst (-1), 1) := by decide +kernel
theorem d_HR_findRowDigits_16 : decode b_HR_findRowDigits 16 = .ok (.if_icmp .eq 22, 3) := by decide +kernel
theorem d_HR_findRowDigits_19 : decode b_HR_findRowDigits 19 = .ok (.aload_n 0, 1) := by decide +kernel
theorem d_HR_findRowDigits_20 : decode b_HR_findRowDigits 20 = .ok (.aload_n 0, 1) := by decide +kernel
theorem d_HR_findRowDigits_21 : decode b_HR_findRowDigits 21 = .ok (.getfield 19, 3) := by decide +kernel
theorem d_HR_findRowDigits_24 : decode b_HR_findRowDigits 24 = .ok (.iload_n 2, 1) := by decide +kernel
theorem d_HR_findRowDigits_25 : decode b_HR_findRowDigits 25 = .ok (.invokevirtual 75, 3) := by decide +kernel
theorem d_HR_findRowDigits_28 : decode b_HR_findRowDigits 28 = .ok (.checkcast 131, 3) := by decide +kernel
theorem d_HR_findRowDigits_31 : decode b_HR_findRowDigits 31 = .ok (.getfield 133, 3) := by decide +kernel
theorem d_HR_findRowDigits_34 : decode b_HR_findRowDigits 34 = .ok (.invokevirtual 178, 3) := by decide +kernel
theorem d_HR_findRowDigits_37 : decode b_HR_findRowDigits 37 = .ok (.return_, 1) := by decide +kernel
theorem d_HR_findRowDigits_38 : decode b_HR_findRowDigits 38 = .ok (.iconst 0, 1) := by decide +kernel
theorem d_HR_findRowDigits_39 : decode b_HR_findRowDigits 39 = .ok (.istore_n 3, 1) := by decide +kernel
theorem d_HR_findRowDigits_40 : decode b_HR_findRowDigits 40 = .ok (.iload_n 3, 1) := by decide +kernel
theorem d_HR_findRowDigits_41 : decode b_HR_findRowDigits 41 = .ok (.aload_n 0, 1) := by decide +kernel
theorem d_HR_findRowDigits_42 : decode b_HR_findRowDigits 42 = .ok (.getfield 16, 3) := by decide +kernel
theorem d_HR_findRowDigits_45 : decode b_HR_findRowDigits 45 = .ok (.invokevirtual 54, 3) := by decide +kernel
theorem d_HR_findRowDigits_48 : decode b_HR_findRowDigits 48 = .ok (.if_icmp .ge 37, 3) := by decide +kernel
theorem d_HR_findRowDigits_51 : decode b_HR_findRowDigits 51 = .ok (.aload_n 0, 1) := by decide +kernel
theorem d_HR_findRowDigits_52 : decode b_HR_findRowDigits 52 = .ok (.getfield 16, 3) := by decide +kernel
theorem d_HR_findRowDigits_55 : decode b_HR_findRowDigits 55 = .ok (.iload_n 3, 1) := by decide +kernel
theorem d_HR_findRowDigits_56 : decode b_HR_findRowDigits 56 = .ok (.invokevirtual 75, 3) := by decide +kernel
theorem d_HR_findRowDigits_59 : decode b_HR_findRowDigits 59 = .ok (.checkcast 109, 3) := by decide +kernel
theorem d_HR_findRowDigits_62 : decode b_HR_findRowDigits 62 = .ok (.astore 4, 2) := by decide +kernel
theorem d_HR_findRowDigits_64 : decode b_HR_findRowDigits 64 = .ok (.aload 4, 2) := by decide +kernel
theorem d_HR_findRowDigits_66 : decode b_HR_findRowDigits 66 = .ok (.getfield 155, 3) := by decide +kernel
theorem d_HR_findRowDigits_69 : decode b_HR_findRowDigits 69 = .ok (.iload_n 1, 1) := by decide +kernel
theorem d_HR_findRowDigits_70 : decode b_HR_findRowDigits 70 = .ok (.if_icmp .ne 9, 3) := by decide +kernel
theorem d_HR_findRowDigits_73 : decode b_HR_findRowDigits 73 = .ok (.aload_n 0, 1) := by decide +kernel
theorem d_HR_findRowDigits_74 : decode b_HR_findRowDigits 74 = .ok (.aload 4, 2) := by decide +kernel
theorem d_HR_findRowDigits_76 : decode b_HR_findRowDigits 76 = .ok (.invokevirtual 181, 3) := by decide +kernel
theorem d_HR_findRowDigits_79 : decode b_HR_findRowDigits 79 = .ok (.iinc 3 1, 3) := by decide +kernel
theorem d_HR_findRowDigits_82 : decode b_HR_findRowDigits 82 = .ok (.goto (-42), 3) := by decide +kernel
theorem d_HR_findRowDigits_85 : decode b_HR_findRowDigits 85 = .ok (.return_, 1) := by decide +kernel
theorem d_HR_takeToldPlaces_0 : decode b_HR_takeToldPlaces 0 = .ok (.iconst 0, 1) := by decide +kernel
theorem d_HR_takeToldPlaces_1 : decode b_HR_takeToldPlaces 1 = .ok (.istore_n 2, 1) := by decide +kernel
theorem d_HR_takeToldPlaces_2 : decode b_HR_takeToldPlaces 2 = .ok (.iload_n 2, 1) := by decide +kernel
theorem d_HR_takeToldPlaces_3 : decode b_HR_takeToldPlaces 3 = .ok (.aload_n 0, 1) := by decide +kernel
theorem d_HR_takeToldPlaces_4 : decode b_HR_takeToldPlaces 4 = .ok (.getfield 39, 3) := by decide +kernel
theorem d_HR_takeToldPlaces_7 : decode b_HR_takeToldPlaces 7 = .ok (.if_icmp .gt 22, 3) := by decide +kernel
theorem d_HR_takeToldPlaces_10 : decode b_HR_takeToldPlaces 10 = .ok (.aload_n 0, 1) := by decide +kernel
theorem d_HR_takeToldPlaces_11 : decode b_HR_takeToldPlaces 11 = .ok (.getfield 45, 3) := by decide +kernel
theorem d_HR_takeToldPlaces_14 : decode b_HR_takeToldPlaces 14 = .ok (.iload_n 2, 1) := by decide +kernel
theorem d_HR_takeToldPlaces_15 : decode b_HR_takeToldPlaces 15 = .ok (.iconst 1, 1) := by decide +kernel
theorem d_HR_takeToldPlaces_16 : decode b_HR_takeToldPlaces 16 = .ok (.iadd, 1) := by decide +kernel
theorem d_HR_takeToldPlaces_17 : decode b_HR_takeToldPlaces 17 = .ok (.iload_n 1, 1) := by decide +kernel
theorem d_HR_takeToldPlaces_18 : decode b_HR_takeToldPlaces 18 = .ok (.iload_n 2, 1) := by decide +kernel
theorem d_HR_takeToldPlaces_19 : decode b_HR_takeToldPlaces 19 = .ok (.iushr, 1) := by decide +kernel
theorem d_HR_takeToldPlaces_20 : decode b_HR_takeToldPlaces 20 = .ok (.iconst 1, 1) := by decide +kernel
theorem d_HR_takeToldPlaces_21 : decode b_HR_takeToldPlaces 21 = .ok (.iand, 1) := by decide +kernel
theorem d_HR_takeToldPlaces_22 : decode b_HR_takeToldPlaces 22 = .ok (.iastore, 1) := by decide +kernel
theorem d_HR_takeToldPlaces_23 : decode b_HR_takeToldPlaces 23 = .ok (.iinc 2 1, 3) := by decide +kernel
theorem d_HR_takeToldPlaces_26 : decode b_HR_takeToldPlaces 26 = .ok (.goto (-24), 3) := by decide +kernel
theorem d_HR_takeToldPlaces_29 : decode b_HR_takeToldPlaces 29 = .ok (.return_, 1) := by decide +kernel
theorem d_HR_layOverRow_0 : decode b_HR_layOverRow 0 = .ok (.aload_n 0, 1) := by decide +kernel
theorem d_HR_layOverRow_1 : decode b_HR_layOverRow 1 = .ok (.getfield 39, 3) := by decide +kernel
theorem d_HR_layOverRow_4 : decode b_HR_layOverRow 4 = .ok (.iconst 2, 1) := by decide +kernel
theorem d_HR_layOverRow_5 : decode b_HR_layOverRow 5 = .ok (.iadd, 1) := by decide +kernel
theorem d_HR_layOverRow_6 : decode b_HR_layOverRow 6 = .ok (.aload_n 1, 1) := by decide +kernel
theorem d_HR_layOverRow_7 : decode b_HR_layOverRow 7 = .ok (.getfield 158, 3) := by decide +kernel
theorem d_HR_layOverRow_10 : decode b_HR_layOverRow 10 = .ok (.arraylength, 1) := by decide +kernel
theorem d_HR_layOverRow_11 : decode b_HR_layOverRow 11 = .ok (.isub, 1) := by decide +kernel
theorem d_HR_layOverRow_12 : decode b_HR_layOverRow 12 = .ok (.istore_n 2, 1) := by decide +kernel
theorem d_HR_layOverRow_13 : decode b_HR_layOverRow 13 = .ok (.iconst 0, 1) := by decide +kernel
theorem d_HR_layOverRow_14 : decode b_HR_layOverRow 14 = .ok (.istore_n 3, 1) := by decide +kernel
theorem d_HR_layOverRow_15 : decode b_HR_layOverRow 15 = .ok (.iload_n 3, 1) := by decide +kernel
theorem d_HR_layOverRow_16 : decode b_HR_layOverRow 16 = .ok (.iload_n 2, 1) := by decide +kernel
theorem d_HR_layOverRow_17 : decode b_HR_layOverRow 17 = .ok (.if_icmp .gt 33, 3) := by decide +kernel
theorem d_HR_layOverRow_20 : decode b_HR_layOverRow 20 = .ok (.aload_n 1, 1) := by decide +kernel
theorem d_HR_layOverRow_21 : decode b_HR_layOverRow 21 = .ok (.getfield 158, 3) := by decide +kernel
theorem d_HR_layOverRow_24 : decode b_HR_layOverRow 24 = .ok (.aload_n 0, 1) := by decide +kernel
theorem d_HR_layOverRow_25 : decode b_HR_layOverRow 25 = .ok (.getfield 42, 3) := by decide +kernel
theorem d_HR_layOverRow_28 : decode b_HR_layOverRow 28 = .ok (.iload_n 3, 1) := by decide +kernel
theorem d_HR_layOverRow_29 : decode b_HR_layOverRow 29 = .ok (.invokestatic 161, 3) := by decide +kernel
theorem d_HR_layOverRow_32 : decode b_HR_layOverRow 32 = .ok (.ifCond .eq 12, 3) := by decide +kernel
theorem d_HR_layOverRow_35 : decode b_HR_layOverRow 35 = .ok (.aload_n 0, 1) := by decide +kernel
theorem d_HR_layOverRow_36 : decode b_HR_layOverRow 36 = .ok (.aload_n 1, 1) := by decide +kernel
theorem d_HR_layOverRow_37 : decode b_HR_layOverRow 37 = .ok (.getfield 111, 3) := by decide +kernel
theorem d_HR_layOverRow_40 : decode b_HR_layOverRow 40 = .ok (.iload_n 3, 1) := by decide +kernel
theorem d_HR_layOverRow_41 : decode b_HR_layOverRow 41 = .ok (.invokevirtual 185, 3) := by decide +kernel
theorem d_HR_layOverRow_44 : decode b_HR_layOverRow 44 = .ok (.iinc 3 1, 3) := by decide +kernel
theorem d_HR_layOverRow_47 : decode b_HR_layOverRow 47 = .ok (.goto (-32), 3) := by decide +kernel
theorem d_HR_layOverRow_50 : decode b_HR_layOverRow 50 = .ok (.return_, 1) := by decide +kernel
theorem d_HR_raiseDigits_0 : decode b_HR_raiseDigits 0 = .ok (.iconst 0, 1) := by decide +kernel
theorem d_HR_raiseDigits_1 : decode b_HR_raiseDigits 1 = .ok (.istore_n 3, 1) := by decide +kernel
theorem d_HR_raiseDigits_2 : decode b_HR_raiseDigits 2 = .ok (.iload_n 3, 1) := by decide +kernel
theorem d_HR_raiseDigits_3 : decode b_HR_raiseDigits 3 = .ok (.aload_n 1, 1) := by decide +kernel
theorem d_HR_raiseDigits_4 : decode b_HR_raiseDigits 4 = .ok (.arraylength, 1) := by decide +kernel
theorem d_HR_raiseDigits_5 : decode b_HR_raiseDigits 5 = .ok (.if_icmp .ge 31, 3) := by decide +kernel
theorem d_HR_raiseDigits_8 : decode b_HR_raiseDigits 8 = .ok (.aload_n 0, 1) := by decide +kernel
theorem d_HR_raiseDigits_9 : decode b_HR_raiseDigits 9 = .ok (.getfield 45, 3) := by decide +kernel
theorem d_HR_raiseDigits_12 : decode b_HR_raiseDigits 12 = .ok (.iload_n 2, 1) := by decide +kernel
theorem d_HR_raiseDigits_13 : decode b_HR_raiseDigits 13 = .ok (.iload_n 3, 1) := by decide +kernel
theorem d_HR_raiseDigits_14 : decode b_HR_raiseDigits 14 = .ok (.iadd, 1) := by decide +kernel
theorem d_HR_raiseDigits_15 : decode b_HR_raiseDigits 15 = .ok (.aload_n 0, 1) := by decide +kernel
theorem d_HR_raiseDigits_16 : decode b_HR_raiseDigits 16 = .ok (.getfield 45, 3) := by decide +kernel
theorem d_HR_raiseDigits_19 : decode b_HR_raiseDigits 19 = .ok (.iload_n 2, 1) := by decide +kernel
theorem d_HR_raiseDigits_20 : decode b_HR_raiseDigits 20 = .ok (.iload_n 3, 1) := by decide +kernel
theorem d_HR_raiseDigits_21 : decode b_HR_raiseDigits 21 = .ok (.iadd, 1) := by decide +kernel
theorem d_HR_raiseDigits_22 : decode b_HR_raiseDigits 22 = .ok (.iaload, 1) := by decide +kernel
theorem d_HR_raiseDigits_23 : decode b_HR_raiseDigits 23 = .ok (.aload_n 1, 1) := by decide +kernel
theorem d_HR_raiseDigits_24 : decode b_HR_raiseDigits 24 = .ok (.iload_n 3, 1) := by decide +kernel
theorem d_HR_raiseDigits_25 : decode b_HR_raiseDigits 25 = .ok (.iaload, 1) := by decide +kernel
theorem d_HR_raiseDigits_26 : decode b_HR_raiseDigits 26 = .ok (.invokestatic 188, 3) := by decide +kernel
theorem d_HR_raiseDigits_29 : decode b_HR_raiseDigits 29 = .ok (.iastore, 1) := by decide +kernel
theorem d_HR_raiseDigits_30 : decode b_HR_raiseDigits 30 = .ok (.iinc 3 1, 3) := by decide +kernel
theorem d_HR_raiseDigits_33 : decode b_HR_raiseDigits 33 = .ok (.goto (-31), 3) := by decide +kernel
theorem d_HR_raiseDigits_36 : decode b_HR_raiseDigits 36 = .ok (.return_, 1) := by decide +kernel
theorem d_HR_at_0 : decode b_HR_at 0 = .ok (.iload_n 1, 1) := by decide +kernel
theorem d_HR_at_1 : decode b_HR_at 1 = .ok (.ifCond .lt 11, 3) := by decide +kernel
theorem d_HR_at_4 : decode b_HR_at 4 = .ok (.iload_n 1, 1) := by decide +kernel
theorem d_HR_at_5 : decode b_HR_at 5 = .ok (.aload_n 0, 1) := by decide +kernel
theorem d_HR_at_6 : decode b_HR_at 6 = .ok (.getfield 51, 3) := by decide +kernel
theorem d_HR_at_9 : decode b_HR_at 9 = .ok (.if_icmp .lt 5, 3) := by decide +kernel
theorem d_HR_at_12 : decode b_HR_at 12 = .ok (.iconst (-1), 1) := by decide +kernel
theorem d_HR_at_13 : decode b_HR_at 13 = .ok (.ireturn, 1) := by decide +kernel
theorem d_HR_at_14 : decode b_HR_at 14 = .ok (.aload_n 0, 1) := by decide +kernel
theorem d_HR_at_15 : decode b_HR_at 15 = .ok (.getfield 48, 3) := by decide +kernel
theorem d_HR_at_18 : decode b_HR_at 18 = .ok (.iload_n 1, 1) := by decide +kernel
theorem d_HR_at_19 : decode b_HR_at 19 = .ok (.iaload, 1) := by decide +kernel
theorem d_HR_at_20 : decode b_HR_at 20 = .ok (.ireturn, 1) := by decide +kernel
theorem d_HR_digit_0 : decode b_HR_digit 0 = .ok (.aload_n 0, 1) := by decide +kernel
theorem d_HR_digit_1 : decode b_HR_digit 1 = .ok (.iload_n 1, 1) := by decide +kernel
theorem d_HR_digit_2 : decode b_HR_digit 2 = .ok (.invokevirtual 65, 3) := by decide +kernel
theorem d_HR_digit_5 : decode b_HR_digit 5 = .ok (.ifCond .eq 15, 3) := by decide +kernel
theorem d_HR_digit_8 : decode b_HR_digit 8 = .ok (.iload_n 2, 1) := by decide +kernel
theorem d_HR_digit_9 : decode b_HR_digit 9 = .ok (.ifCond .lt 11, 3) := by decide +kernel
theorem d_HR_digit_12 : decode b_HR_digit 12 = .ok (.iload_n 2, 1) := by decide +kernel
theorem d_HR_digit_13 : decode b_HR_digit 13 = .ok (.aload_n 0, 1) := by decide +kernel
theorem d_HR_digit_14 : decode b_HR_digit 14 = .ok (.getfield 39, 3) := by decide +kernel
theorem d_HR_digit_17 : decode b_HR_digit 17 = .ok (.if_icmp .le 5, 3) := by decide +kernel
theorem d_HR_digit_20 : decode b_HR_digit 20 = .ok (.iconst (-1), 1) := by decide +kernel
theorem d_HR_digit_21 : decode b_HR_digit 21 = .ok (.ireturn, 1) := by decide +kernel
theorem d_HR_digit_22 : decode b_HR_digit 22 = .ok (.aload_n 0, 1) := by decide +kernel
theorem d_HR_digit_23 : decode b_HR_digit 23 = .ok (.aload_n 0, 1) := by decide +kernel
theorem d_HR_digit_24 : decode b_HR_digit 24 = .ok (.getfield 10, 3) := by decide +kernel
theorem d_HR_digit_27 : decode b_HR_digit 27 = .ok (.iload_n 1, 1) := by decide +kernel
theorem d_HR_digit_28 : decode b_HR_digit 28 = .ok (.invokevirtual 75, 3) := by decide +kernel
theorem d_HR_digit_31 : decode b_HR_digit 31 = .ok (.checkcast 58, 3) := by decide +kernel
theorem d_HR_digit_34 : decode b_HR_digit 34 = .ok (.invokevirtual 123, 3) := by decide +kernel
theorem d_HR_digit_37 : decode b_HR_digit 37 = .ok (.ifCond .ne 5, 3) := by decide +kernel
theorem d_HR_digit_40 : decode b_HR_digit 40 = .ok (.iconst 0, 1) := by decide +kernel
theorem d_HR_digit_41 : decode b_HR_digit 41 = .ok (.ireturn, 1) := by decide +kernel
theorem d_HR_digit_42 : decode b_HR_digit 42 = .ok (.aload_n 0, 1) := by decide +kernel
theorem d_HR_digit_43 : decode b_HR_digit 43 = .ok (.iload_n 1, 1) := by decide +kernel
theorem d_HR_digit_44 : decode b_HR_digit 44 = .ok (.invokevirtual 151, 3) := by decide +kernel
theorem d_HR_digit_47 : decode b_HR_digit 47 = .ok (.aload_n 0, 1) := by decide +kernel
theorem d_HR_digit_48 : decode b_HR_digit 48 = .ok (.getfield 45, 3) := by decide +kernel
theorem d_HR_digit_51 : decode b_HR_digit 51 = .ok (.iload_n 2, 1) := by decide +kernel
theorem d_HR_digit_52 : decode b_HR_digit 52 = .ok (.iconst 1, 1) := by decide +kernel
theorem d_HR_digit_53 : decode b_HR_digit 53 = .ok (.iadd, 1) := by decide +kernel
theorem d_HR_digit_54 : decode b_HR_digit 54 = .ok (.iaload, 1) := by decide +kernel
theorem d_HR_digit_55 : decode b_HR_digit 55 = .ok (.ireturn, 1) := by decide +kernel
theorem d_HR_patterns_0 : decode b_HR_patterns 0 = .ok (.aload_n 0, 1) := by decide +kernel
theorem d_HR_patterns_1 : decode b_HR_patterns 1 = .ok (.getfield 16, 3) := by decide +kernel
theorem d_HR_patterns_4 : decode b_HR_patterns 4 = .ok (.invokevirtual 54, 3) := by decide +kernel
theorem d_HR_patterns_7 : decode b_HR_patterns 7 = .ok (.ireturn, 1) := by decide +kernel
theorem d_HR_exceptions_0 : decode b_HR_exceptions 0 = .ok (.aload_n 0, 1) := by decide +kernel
theorem d_HR_exceptions_1 : decode b_HR_exceptions 1 = .ok (.getfield 19, 3) := by decide +kernel
theorem d_HR_exceptions_4 : decode b_HR_exceptions 4 = .ok (.invokevirtual 54, 3) := by decide +kernel
theorem d_HR_exceptions_7 : decode b_HR_exceptions 7 = .ok (.ireturn, 1) := by decide +kernel
end
section
theorem d_Mo_init_0 : decode b_Mo_init 0 = .ok (.aload_n 0, 1) := by decide +kernel
theorem d_Mo_init_1 : decode b_Mo_init 1 = .ok (.invokespecial 1, 3) := by decide +kernel
theorem d_Mo_init_4 : decode b_Mo_init 4 = .ok (.aload_n 0, 1) := by decide +kernel
theorem d_Mo_init_5 : decode b_Mo_init 5 = .ok (.sipush 1024, 3) := by decide +kernel
theorem d_Mo_init_8 : decode b_Mo_init 8 = .ok (.newarray .int, 2) := by decide +kernel
theorem d_Mo_init_10 : decode b_Mo_init 10 = .ok (.putfield 7, 3) := by decide +kernel
theorem d_Mo_init_13 : decode b_Mo_init 13 = .ok (.aload_n 0, 1) := by decide +kernel
theorem d_Mo_init_14 : decode b_Mo_init 14 = .ok (.sipush 1024, 3) := by decide +kernel
theorem d_Mo_init_17 : decode b_Mo_init 17 = .ok (.newarray .boolean, 2) := by decide +kernel
theorem d_Mo_init_19 : decode b_Mo_init 19 = .ok (.putfield 13, 3) := by decide +kernel
theorem d_Mo_init_22 : decode b_Mo_init 22 = .ok (.aload_n 0, 1) := by decide +kernel
theorem d_Mo_init_23 : decode b_Mo_init 23 = .ok (.iconst 4, 1) := by decide +kernel
theorem d_Mo_init_24 : decode b_Mo_init 24 = .ok (.newarray .int, 2) := by decide +kernel
theorem d_Mo_init_26 : decode b_Mo_init 26 = .ok (.putfield 17, 3) := by decide +kernel
theorem d_Mo_init_29 : decode b_Mo_init 29 = .ok (.aload_n 0, 1) := by decide +kernel
theorem d_Mo_init_30 : decode b_Mo_init 30 = .ok (.iconst 4, 1) := by decide +kernel
theorem d_Mo_init_31 : decode b_Mo_init 31 = .ok (.newarray .int, 2) := by decide +kernel
theorem d_Mo_init_33 : decode b_Mo_init 33 = .ok (.putfield 20, 3) := by decide +kernel
theorem d_Mo_init_36 : decode b_Mo_init 36 = .ok (.aload_n 0, 1) := by decide +kernel
theorem d_Mo_init_37 : decode b_Mo_init 37 = .ok (.iconst 4, 1) := by decide +kernel
theorem d_Mo_init_38 : decode b_Mo_init 38 = .ok (.newarray .boolean, 2) := by decide +kernel
theorem d_Mo_init_40 : decode b_Mo_init 40 = .ok (.putfield 23, 3) := by decide +kernel
theorem d_Mo_init_43 : decode b_Mo_init 43 = .ok (.aload_n 0, 1) := by decide +kernel
theorem d_Mo_init_44 : decode b_Mo_init 44 = .ok (.bipush 12, 2) := by decide +kernel
theorem d_Mo_init_46 : decode b_Mo_init 46 = .ok (.newarray .int, 2) := by decide +kernel
theorem d_Mo_init_48 : decode b_Mo_init 48 = .ok (.putfield 26, 3) := by decide +kernel
theorem d_Mo_init_51 : decode b_Mo_init 51 = .ok (.aload_n 0, 1) := by decide +kernel
theorem d_Mo_init_52 : decode b_Mo_init 52 = .ok (.bipush 13, 2) := by decide +kernel
theorem d_Mo_init_54 : decode b_Mo_init 54 = .ok (.newarray .int, 2) := by decide +kernel
theorem d_Mo_init_56 : decode b_Mo_init 56 = .ok (.putfield 29, 3) := by decide +kernel
theorem d_Mo_init_59 : decode b_Mo_init 59 = .ok (.aload_n 0, 1) := by decide +kernel
theorem d_Mo_init_60 : decode b_Mo_init 60 = .ok (.sipush 150, 3) := by decide +kernel
theorem d_Mo_init_63 : decode b_Mo_init 63 = .ok (.newarray .int, 2) := by decide +kernel
theorem d_Mo_init_65 : decode b_Mo_init 65 = .ok (.putfield 32, 3) := by decide +kernel
theorem d_Mo_init_68 : decode b_Mo_init 68 = .ok (.aload_n 0, 1) := by decide +kernel
theorem d_Mo_init_69 : decode b_Mo_init 69 = .ok (.sipush 150, 3) := by decide +kernel
theorem d_Mo_init_72 : decode b_Mo_init 72 = .ok (.newarray .int, 2) := by decide +kernel
theorem d_Mo_init_74 : decode b_Mo_init 74 = .ok (.putfield 35, 3) := by decide +kernel
theorem d_Mo_init_77 : decode b_Mo_init 77 = .ok (.aload_n 0, 1) := by decide +kernel
theorem d_Mo_init_78 : decode b_Mo_init 78 = .ok (.sipush 1800, 3) := by decide +kernel
theorem d_Mo_init_81 : decode b_Mo_init 81 = .ok (.newarray .int, 2) := by decide +kernel
theorem d_Mo_init_83 : decode b_Mo_init 83 = .ok (.putfield 38, 3) := by decide +kernel
theorem d_Mo_init_86 : decode b_Mo_init 86 = .ok (.aload_n 0, 1) := by decide +kernel
theorem d_Mo_init_87 : decode b_Mo_init 87 = .ok (.sipush 1950, 3) := by decide +kernel
theorem d_Mo_init_90 : decode b_Mo_init 90 = .ok (.newarray .int, 2) := by decide +kernel
theorem d_Mo_init_92 : decode b_Mo_init 92 = .ok (.putfield 41, 3) := by decide +kernel
theorem d_Mo_init_95 : decode b_Mo_init 95 = .ok (.aload_n 0, 1) := by decide +kernel
theorem d_Mo_init_96 : decode b_Mo_init 96 = .ok (.bipush 40, 2) := by decide +kernel
theorem d_Mo_init_98 : decode b_Mo_init 98 = .ok (.newarray .int, 2) := by decide +kernel
theorem d_Mo_init_100 : decode b_Mo_init 100 = .ok (.putfield 44, 3) := by decide +kernel
theorem d_Mo_init_103 : decode b_Mo_init 103 = .ok (.aload_n 0, 1) := by decide +kernel
theorem d_Mo_init_104 : decode b_Mo_init 104 = .ok (.bipush 40, 2) := by decide +kernel
theorem d_Mo_init_106 : decode b_Mo_init 106 = .ok (.newarray .int, 2) := by decide +kernel
theorem d_Mo_init_108 : decode b_Mo_init 108 = .ok (.putfield 47, 3) := by decide +kernel
theorem d_Mo_init_111 : decode b_Mo_init 111 = .ok (.aload_n 0, 1) := by decide +kernel
theorem d_Mo_init_112 : decode b_Mo_init 112 = .ok (.sipush 1200, 3) := by decide +kernel
theorem d_Mo_init_115 : decode b_Mo_init 115 = .ok (.newarray .int, 2) := by decide +kernel
theorem d_Mo_init_117 : decode b_Mo_init 117 = .ok (.putfield 50, 3) := by decide +kernel
theorem d_Mo_init_120 : decode b_Mo_init 120 = .ok (.aload_n 0, 1) := by decide +kernel
theorem d_Mo_init_121 : decode b_Mo_init 121 = .ok (.bipush 40, 2) := by decide +kernel
theorem d_Mo_init_123 : decode b_Mo_init 123 = .ok (.newarray .int, 2) := by decide +kernel
theorem d_Mo_init_125 : decode b_Mo_init 125 = .ok (.putfield 53, 3) := by decide +kernel
theorem d_Mo_init_128 : decode b_Mo_init 128 = .ok (.aload_n 0, 1) := by decide +kernel
theorem d_Mo_init_129 : decode b_Mo_init 129 = .ok (.bipush 30, 2) := by decide +kernel
theorem d_Mo_init_131 : decode b_Mo_init 131 = .ok (.newarray .int, 2) := by decide +kernel
theorem d_Mo_init_133 : decode b_Mo_init 133 = .ok (.putfield 56, 3) := by decide +kernel
theorem d_Mo_init_136 : decode b_Mo_init 136 = .ok (.aload_n 0, 1) := by decide +kernel
theorem d_Mo_init_137 : decode b_Mo_init 137 = .ok (.bipush 32, 2) := by decide +kernel
theorem d_Mo_init_139 : decode b_Mo_init 139 = .ok (.newarray .int, 2) := by decide +kernel
theorem d_Mo_init_141 : decode b_Mo_init 141 = .ok (.putfield 59, 3) := by decide +kernel
theorem d_Mo_init_144 : decode b_Mo_init 144 = .ok (.aload_n 0, 1) := by decide +kernel
theorem d_Mo_init_145 : decode b_Mo_init 145 = .ok (.bipush 32, 2) := by decide +kernel
theorem d_Mo_init_147 : decode b_Mo_init 147 = .ok (.newarray .int, 2) := by decide +kernel
theorem d_Mo_init_149 : decode b_Mo_init 149 = .ok (.putfield 62, 3) := by decide +kernel
theorem d_Mo_init_152 : decode b_Mo_init 152 = .ok (.return_, 1) := by decide +kernel
theorem d_Mo_language_0 : decode b_Mo_language 0 = .ok (.aload_n 0, 1) := by decide +kernel
theorem d_Mo_language_1 : decode b_Mo_language 1 = .ok (.getfield 65, 3) := by decide +kernel
theorem d_Mo_language_4 : decode b_Mo_language 4 = .ok (.iconst 4, 1) := by decide +kernel
theorem d_Mo_language_5 : decode b_Mo_language 5 = .ok (.if_icmp .ne 6, 3) := by decide +kernel
theorem d_Mo_language_8 : decode b_Mo_language 8 = .ok (.bipush (-2), 2) := by decide +kernel
theorem d_Mo_language_10 : decode b_Mo_language 10 = .ok (.ireturn, 1) := by decide +kernel
theorem d_Mo_language_11 : decode b_Mo_language 11 = .ok (.aload_n 0, 1) := by decide +kernel
theorem d_Mo_language_12 : decode b_Mo_language 12 = .ok (.getfield 17, 3) := by decide +kernel
theorem d_Mo_language_15 : decode b_Mo_language 15 = .ok (.aload_n 0, 1) := by decide +kernel
theorem d_Mo_language_16 : decode b_Mo_language 16 = .ok (.getfield 65, 3) := by decide +kernel
theorem d_Mo_language_19 : decode b_Mo_language 19 = .ok (.iconst 2, 1) := by decide +kernel
theorem d_Mo_language_20 : decode b_Mo_language 20 = .ok (.iastore, 1) := by decide +kernel
theorem d_Mo_language_21 : decode b_Mo_language 21 = .ok (.aload_n 0, 1) := by decide +kernel
theorem d_Mo_language_22 : decode b_Mo_language 22 = .ok (.getfield 20, 3) := by decide +kernel
theorem d_Mo_language_25 : decode b_Mo_language 25 = .ok (.aload_n 0, 1) := by decide +kernel
theorem d_Mo_language_26 : decode b_Mo_language 26 = .ok (.getfield 65, 3) := by decide +kernel
theorem d_Mo_language_29 : decode b_Mo_language 29 = .ok (.iconst 3, 1) := by decide +kernel
theorem d_Mo_language_30 : decode b_Mo_language 30 = .ok (.iastore, 1) := by decide +kernel
theorem d_Mo_language_31 : decode b_Mo_language 31 = .ok (.aload_n 0, 1) := by decide +kernel
theorem d_Mo_language_32 : decode b_Mo_language 32 = .ok (.dup, 1) := by decide +kernel
theorem d_Mo_language_33 : decode b_Mo_language 33 = .ok (.getfield 65, 3) := by decide +kernel
theorem d_Mo_language_36 : decode b_Mo_language 36 = .ok (.iconst 1, 1) := by decide +kernel
theorem d_Mo_language_37 : decode b_Mo_language 37 = .ok (.iadd, 1) := by decide +kernel
theorem d_Mo_language_38 : decode b_Mo_language 38 = .ok (.putfield 65, 3) := by decide +kernel
theorem d_Mo_language_41 : decode b_Mo_language 41 = .ok (.aload_n 0, 1) := by decide +kernel
theorem d_Mo_language_42 : decode b_Mo_language 42 = .ok (.getfield 65, 3) := by decide +kernel
theorem d_Mo_language_45 : decode b_Mo_language 45 = .ok (.iconst 1, 1) := by decide +kernel
theorem d_Mo_language_46 : decode b_Mo_language 46 = .ok (.isub, 1) := by decide +kernel
theorem d_Mo_language_47 : decode b_Mo_language 47 = .ok (.ireturn, 1) := by decide +kernel
theorem d_Mo_code_0 : decode b_Mo_code 0 = .ok (.aload_n 0, 1) := by decide +kernel
theorem d_Mo_code_1 : decode b_Mo_code 1 = .ok (.iload_n 1, 1) := by decide +kernel
theorem d_Mo_code_2 : decode b_Mo_code 2 = .ok (.invokevirtual 69, 3) := by decide +kernel
theorem d_Mo_code_5 : decode b_Mo_code 5 = .ok (.ifCond .eq 24, 3) := by decide +kernel
theorem d_Mo_code_8 : decode b_Mo_code 8 = .ok (.iload_n 2, 1) := by decide +kernel
theorem d_Mo_code_9 : decode b_Mo_code 9 = .ok (.iconst 0, 1) := by decide +kernel
theorem d_Mo_code_10 : decode b_Mo_code 10 = .ok (.sipush 255, 3) := by decide +kernel
theorem d_Mo_code_13 : decode b_Mo_code 13 = .ok (.invokestatic 73, 3) := by decide +kernel
theorem d_Mo_code_16 : decode b_Mo_code 16 = .ok (.ifCond .eq 13, 3) := by decide +kernel
theorem d_Mo_code_19 : decode b_Mo_code 19 = .ok (.iload_n 3, 1) := by decide +kernel
theorem d_Mo_code_20 : decode b_Mo_code 20 = .ok (.iconst 0, 1) := by decide +kernel
theorem d_Mo_code_21 : decode b_Mo_code 21 = .ok (.bipush 30, 2) := by decide +kernel
theorem d_Mo_code_23 : decode b_Mo_code 23 = .ok (.invokestatic 73, 3) := by decide +kernel
theorem d_Mo_code_26 : decode b_Mo_code 26 = .ok (.ifCond .ne 5, 3) := by decide +kernel
theorem d_Mo_code_29 : decode b_Mo_code 29 = .ok (.iconst (-1), 1) := by decide +kernel
theorem d_Mo_code_30 : decode b_Mo_code 30 = .ok (.ireturn, 1) := by decide +kernel
theorem d_Mo_code_31 : decode b_Mo_code 31 = .ok (.aload_n 0, 1) := by decide +kernel
theorem d_Mo_code_32 : decode b_Mo_code 32 = .ok (.getfield 7, 3) := by decide +kernel
theorem d_Mo_code_35 : decode b_Mo_code 35 = .ok (.sipush 256, 3) := by decide +kernel
theorem d_Mo_code_38 : decode b_Mo_code 38 = .ok (.iload_n 1, 1) := by decide +kernel
theorem d_Mo_code_39 : decode b_Mo_code 39 = .ok (.imul, 1) := by decide +kernel
theorem d_Mo_code_40 : decode b_Mo_code 40 = .ok (.iload_n 2, 1) := by decide +kernel
theorem d_Mo_code_41 : decode b_Mo_code 41 = .ok (.iadd, 1) := by decide +kernel
theorem d_Mo_code_42 : decode b_Mo_code 42 = .ok (.iload_n 3, 1) := by decide +kernel
theorem d_Mo_code_43 : decode b_Mo_code 43 = .ok (.iastore, 1) := by decide +kernel
theorem d_Mo_code_44 : decode b_Mo_code 44 = .ok (.aload_n 0, 1) := by decide +kernel
theorem d_Mo_code_45 : decode b_Mo_code 45 = .ok (.getfield 13, 3) := by decide +kernel
theorem d_Mo_code_48 : decode b_Mo_code 48 = .ok (.sipush 256, 3) := by decide +kernel
theorem d_Mo_code_51 : decode b_Mo_code 51 = .ok (.iload_n 1, 1) := by decide +kernel
theorem d_Mo_code_52 : decode b_Mo_code 52 = .ok (.imul, 1) := by decide +kernel
theorem d_Mo_code_53 : decode b_Mo_code 53 = .ok (.iload_n 2, 1) := by decide +kernel
theorem d_Mo_code_54 : decode b_Mo_code 54 = .ok (.iadd, 1) := by decide +kernel
theorem d_Mo_code_55 : decode b_Mo_code 55 = .ok (.iload 4, 2) := by decide +kernel
theorem d_Mo_code_57 : decode b_Mo_code 57 = .ok (.bastore, 1) := by decide +kernel
theorem d_Mo_code_58 : decode b_Mo_code 58 = .ok (.iconst 1, 1) := by decide +kernel
theorem d_Mo_code_59 : decode b_Mo_code 59 = .ok (.ireturn, 1) := by decide +kernel
theorem d_Mo_isLanguage_0 : decode b_Mo_isLanguage 0 = .ok (.iload_n 1, 1) := by decide +kernel
theorem d_Mo_isLanguage_1 : decode b_Mo_isLanguage 1 = .ok (.ifCond .lt 15, 3) := by decide +kernel
theorem d_Mo_isLanguage_4 : decode b_Mo_isLanguage 4 = .ok (.iload_n 1, 1) := by decide +kernel
theorem d_Mo_isLanguage_5 : decode b_Mo_isLanguage 5 = .ok (.aload_n 0, 1) := by decide +kernel
theorem d_Mo_isLanguage_6 : decode b_Mo_isLanguage 6 = .ok (.getfield 65, 3) := by decide +kernel
theorem d_Mo_isLanguage_9 : decode b_Mo_isLanguage 9 = .ok (.if_icmp .ge 7, 3) := by decide +kernel
theorem d_Mo_isLanguage_12 : decode b_Mo_isLanguage 12 = .ok (.iconst 1, 1) := by decide +kernel
theorem d_Mo_isLanguage_13 : decode b_Mo_isLanguage 13 = .ok (.goto 4, 3) := by decide +kernel
theorem d_Mo_isLanguage_16 : decode b_Mo_isLanguage 16 = .ok (.iconst 0, 1) := by decide +kernel
theorem d_Mo_isLanguage_17 : decode b_Mo_isLanguage 17 = .ok (.ireturn, 1) := by decide +kernel
theorem d_Mo_in_0 : decode b_Mo_in 0 = .ok (.iload_n 0, 1) := by decide +kernel
theorem d_Mo_in_1 : decode b_Mo_in 1 = .ok (.iload_n 1, 1) := by decide +kernel
theorem d_Mo_in_2 : decode b_Mo_in 2 = .ok (.if_icmp .lt 12, 3) := by decide +kernel
theorem d_Mo_in_5 : decode b_Mo_in 5 = .ok (.iload_n 0, 1) := by decide +kernel
theorem d_Mo_in_6 : decode b_Mo_in 6 = .ok (.iload_n 2, 1) := by decide +kernel
theorem d_Mo_in_7 : decode b_Mo_in 7 = .ok (.if_icmp .gt 7, 3) := by decide +kernel
theorem d_Mo_in_10 : decode b_Mo_in 10 = .ok (.iconst 1, 1) := by decide +kernel
theorem d_Mo_in_11 : decode b_Mo_in 11 = .ok (.goto 4, 3) := by decide +kernel
theorem d_Mo_in_14 : decode b_Mo_in 14 = .ok (.iconst 0, 1) := by decide +kernel
theorem d_Mo_in_15 : decode b_Mo_in 15 = .ok (.ireturn, 1) := by decide +kernel
theorem d_Mo_ends_0 : decode b_Mo_ends 0 = .ok (.aload_n 0, 1) := by decide +kernel
theorem d_Mo_ends_1 : decode b_Mo_ends 1 = .ok (.iload_n 1, 1) := by decide +kernel
theorem d_Mo_ends_2 : decode b_Mo_ends 2 = .ok (.invokevirtual 69, 3) := by decide +kernel
theorem d_Mo_ends_5 : decode b_Mo_ends 5 = .ok (.ifCond .eq 23, 3) := by decide +kernel
theorem d_Mo_ends_8 : decode b_Mo_ends 8 = .ok (.iload_n 2, 1) := by decide +kernel
theorem d_Mo_ends_9 : decode b_Mo_ends 9 = .ok (.iconst 0, 1) := by decide +kernel
theorem d_Mo_ends_10 : decode b_Mo_ends 10 = .ok (.bipush 20, 2) := by decide +kernel
theorem d_Mo_ends_12 : decode b_Mo_ends 12 = .ok (.invokestatic 73, 3) := by decide +kernel
theorem d_Mo_ends_15 : decode b_Mo_ends 15 = .ok (.ifCond .eq 13, 3) := by decide +kernel
theorem d_Mo_ends_18 : decode b_Mo_ends 18 = .ok (.iload_n 3, 1) := by decide +kernel
theorem d_Mo_ends_19 : decode b_Mo_ends 19 = .ok (.iconst 0, 1) := by decide +kernel
theorem d_Mo_ends_20 : decode b_Mo_ends 20 = .ok (.bipush 20, 2) := by decide +kernel
theorem d_Mo_ends_22 : decode b_Mo_ends 22 = .ok (.invokestatic 73, 3) := by decide +kernel
theorem d_Mo_ends_25 : decode b_Mo_ends 25 = .ok (.ifCond .ne 5, 3) := by decide +kernel
theorem d_Mo_ends_28 : decode b_Mo_ends 28 = .ok (.iconst (-1), 1) := by decide +kernel
theorem d_Mo_ends_29 : decode b_Mo_ends 29 = .ok (.ireturn, 1) := by decide +kernel
theorem d_Mo_ends_30 : decode b_Mo_ends 30 = .ok (.aload_n 0, 1) := by decide +kernel
theorem d_Mo_ends_31 : decode b_Mo_ends 31 = .ok (.getfield 17, 3) := by decide +kernel
theorem d_Mo_ends_34 : decode b_Mo_ends 34 = .ok (.iload_n 1, 1) := by decide +kernel
theorem d_Mo_ends_35 : decode b_Mo_ends 35 = .ok (.iload_n 2, 1) := by decide +kernel
theorem d_Mo_ends_36 : decode b_Mo_ends 36 = .ok (.iastore, 1) := by decide +kernel
theorem d_Mo_ends_37 : decode b_Mo_ends 37 = .ok (.aload_n 0, 1) := by decide +kernel
theorem d_Mo_ends_38 : decode b_Mo_ends 38 = .ok (.getfield 20, 3) := by decide +kernel
theorem d_Mo_ends_41 : decode b_Mo_ends 41 = .ok (.iload_n 1, 1) := by decide +kernel
theorem d_Mo_ends_42 : decode b_Mo_ends 42 = .ok (.iload_n 3, 1) := by decide +kernel
theorem d_Mo_ends_43 : decode b_Mo_ends 43 = .ok (.iastore, 1) := by decide +kernel
theorem d_Mo_ends_44 : decode b_Mo_ends 44 = .ok (.aload_n 0, 1) := by decide +kernel
theorem d_Mo_ends_45 : decode b_Mo_ends 45 = .ok (.getfield 23, 3) := by decide +kernel
theorem d_Mo_ends_48 : decode b_Mo_ends 48 = .ok (.iload_n 1, 1) := by decide +kernel
theorem d_Mo_ends_49 : decode b_Mo_ends 49 = .ok (.iload 4, 2) := by decide +kernel
theorem d_Mo_ends_51 : decode b_Mo_ends 51 = .ok (.bastore, 1) := by decide +kernel
theorem d_Mo_ends_52 : decode b_Mo_ends 52 = .ok (.iconst 1, 1) := by decide +kernel
theorem d_Mo_ends_53 : decode b_Mo_ends 53 = .ok (.ireturn, 1) := by decide +kernel
theorem d_Mo_next_0 : decode b_Mo_next 0 = .ok (.iload_n 1, 1) := by decide +kernel
theorem d_Mo_next_1 : decode b_Mo_next 1 = .ok (.iconst 0, 1) := by decide +kernel
theorem d_Mo_next_2 : decode b_Mo_next 2 = .ok (.bipush 30, 2) := by decide +kernel
theorem d_Mo_next_4 : decode b_Mo_next 4 = .ok (.invokestatic 73, 3) := by decide +kernel
theorem d_Mo_next_7 : decode b_Mo_next 7 = .ok (.ifCond .eq 13, 3) := by decide +kernel
theorem d_Mo_next_10 : decode b_Mo_next 10 = .ok (.iload_n 2, 1) := by decide +kernel
theorem d_Mo_next_11 : decode b_Mo_next 11 = .ok (.iconst 0, 1) := by decide +kernel
theorem d_Mo_next_12 : decode b_Mo_next 12 = .ok (.bipush 9, 2) := by decide +kernel
theorem d_Mo_next_14 : decode b_Mo_next 14 = .ok (.invokestatic 73, 3) := by decide +kernel
theorem d_Mo_next_17 : decode b_Mo_next 17 = .ok (.ifCond .ne 5, 3) := by decide +kernel
theorem d_Mo_next_20 : decode b_Mo_next 20 = .ok (.iconst (-1), 1) := by decide +kernel
theorem d_Mo_next_21 : decode b_Mo_next 21 = .ok (.ireturn, 1) := by decide +kernel
theorem d_Mo_next_22 : decode b_Mo_next 22 = .ok (.aload_n 0, 1) := by decide +kernel
theorem d_Mo_next_23 : decode b_Mo_next 23 = .ok (.getfield 77, 3) := by decide +kernel
theorem d_Mo_next_26 : decode b_Mo_next 26 = .ok (.bipush 12, 2) := by decide +kernel
theorem d_Mo_next_28 : decode b_Mo_next 28 = .ok (.if_icmp .ne 6, 3) := by decide +kernel
theorem d_Mo_next_31 : decode b_Mo_next 31 = .ok (.bipush (-2), 2) := by decide +kernel
theorem d_Mo_next_33 : decode b_Mo_next 33 = .ok (.ireturn, 1) := by decide +kernel
theorem d_Mo_next_34 : decode b_Mo_next 34 = .ok (.aload_n 0, 1) := by decide +kernel
theorem d_Mo_next_35 : decode b_Mo_next 35 = .ok (.getfield 26, 3) := by decide +kernel
theorem d_Mo_next_38 : decode b_Mo_next 38 = .ok (.aload_n 0, 1) := by decide +kernel
theorem d_Mo_next_39 : decode b_Mo_next 39 = .ok (.getfield 77, 3) := by decide +kernel
theorem d_Mo_next_42 : decode b_Mo_next 42 = .ok (.iload_n 1, 1) := by decide +kernel
theorem d_Mo_next_43 : decode b_Mo_next 43 = .ok (.iastore, 1) := by decide +kernel
theorem d_Mo_next_44 : decode b_Mo_next 44 = .ok (.aload_n 0, 1) := by decide +kernel
theorem d_Mo_next_45 : decode b_Mo_next 45 = .ok (.getfield 29, 3) := by decide +kernel
theorem d_Mo_next_48 : decode b_Mo_next 48 = .ok (.aload_n 0, 1) := by decide +kernel
theorem d_Mo_next_49 : decode b_Mo_next 49 = .ok (.getfield 77, 3) := by decide +kernel
theorem d_Mo_next_52 : decode b_Mo_next 52 = .ok (.iload_n 2, 1) := by decide +kernel
theorem d_Mo_next_53 : decode b_Mo_next 53 = .ok (.iastore, 1) := by decide +kernel
theorem d_Mo_next_54 : decode b_Mo_next 54 = .ok (.aload_n 0, 1) := by decide +kernel
theorem d_Mo_next_55 : decode b_Mo_next 55 = .ok (.dup, 1) := by decide +kernel
theorem d_Mo_next_56 : decode b_Mo_next 56 = .ok (.getfield 77, 3) := by decide +kernel
theorem d_Mo_next_59 : decode b_Mo_next 59 = .ok (.iconst 1, 1) := by decide +kernel
theorem d_Mo_next_60 : decode b_Mo_next 60 = .ok (.iadd, 1) := by decide +kernel
theorem d_Mo_next_61 : decode b_Mo_next 61 = .ok (.putfield 77, 3) := by decide +kernel
theorem d_Mo_next_64 : decode b_Mo_next 64 = .ok (.aload_n 0, 1) := by decide +kernel
theorem d_Mo_next_65 : decode b_Mo_next 65 = .ok (.getfield 77, 3) := by decide +kernel
theorem d_Mo_next_68 : decode b_Mo_next 68 = .ok (.ireturn, 1) := by decide +kernel
theorem d_Mo_pattern_0 : decode b_Mo_pattern 0 = .ok (.aload_n 0, 1) := by decide +kernel
theorem d_Mo_pattern_1 : decode b_Mo_pattern 1 = .ok (.iload_n 1, 1) := by decide +kernel
theorem d_Mo_pattern_2 : decode b_Mo_pattern 2 = .ok (.invokevirtual 69, 3) := by decide +kernel
theorem d_Mo_pattern_5 : decode b_Mo_pattern 5 = .ok (.ifCond .eq 13, 3) := by decide +kernel
theorem d_Mo_pattern_8 : decode b_Mo_pattern 8 = .ok (.iload_n 2, 1) := by decide +kernel
theorem d_Mo_pattern_9 : decode b_Mo_pattern 9 = .ok (.iconst 0, 1) := by decide +kernel
theorem d_Mo_pattern_10 : decode b_Mo_pattern 10 = .ok (.bipush 9, 2) := by decide +kernel
theorem d_Mo_pattern_12 : decode b_Mo_pattern 12 = .ok (.invokestatic 73, 3) := by decide +kernel
theorem d_Mo_pattern_15 : decode b_Mo_pattern 15 = .ok (.ifCond .ne 5, 3) := by decide +kernel
theorem d_Mo_pattern_18 : decode b_Mo_pattern 18 = .ok (.iconst (-1), 1) := by decide +kernel
theorem d_Mo_pattern_19 : decode b_Mo_pattern 19 = .ok (.ireturn, 1) := by decide +kernel
theorem d_Mo_pattern_20 : decode b_Mo_pattern 20 = .ok (.aload_n 0, 1) := by decide +kernel
theorem d_Mo_pattern_21 : decode b_Mo_pattern 21 = .ok (.getfield 29, 3) := by decide +kernel
theorem d_Mo_pattern_24 : decode b_Mo_pattern 24 = .ok (.aload_n 0, 1) := by decide +kernel
theorem d_Mo_pattern_25 : decode b_Mo_pattern 25 = .ok (.getfield 77, 3) := by decide +kernel
theorem d_Mo_pattern_28 : decode b_Mo_pattern 28 = .ok (.iload_n 2, 1) := by decide +kernel
theorem d_Mo_pattern_29 : decode b_Mo_pattern 29 = .ok (.iastore, 1) := by decide +kernel
theorem d_Mo_pattern_30 : decode b_Mo_pattern 30 = .ok (.iconst 0, 1) := by decide +kernel
theorem d_Mo_pattern_31 : decode b_Mo_pattern 31 = .ok (.istore_n 3, 1) := by decide +kernel
theorem d_Mo_pattern_32 : decode b_Mo_pattern 32 = .ok (.iload_n 3, 1) := by decide +kernel
theorem d_Mo_pattern_33 : decode b_Mo_pattern 33 = .ok (.aload_n 0, 1) := by decide +kernel
theorem d_Mo_pattern_34 : decode b_Mo_pattern 34 = .ok (.getfield 80, 3) := by decide +kernel
theorem d_Mo_pattern_37 : decode b_Mo_pattern 37 = .ok (.if_icmp .ge 18, 3) := by decide +kernel
theorem d_Mo_pattern_40 : decode b_Mo_pattern 40 = .ok (.aload_n 0, 1) := by decide +kernel
theorem d_Mo_pattern_41 : decode b_Mo_pattern 41 = .ok (.iload_n 3, 1) := by decide +kernel
theorem d_Mo_pattern_42 : decode b_Mo_pattern 42 = .ok (.iload_n 1, 1) := by decide +kernel
theorem d_Mo_pattern_43 : decode b_Mo_pattern 43 = .ok (.invokevirtual 83, 3) := by decide +kernel
theorem d_Mo_pattern_46 : decode b_Mo_pattern 46 = .ok (.ifCond .ne 9, 3) := by decide +kernel
theorem d_Mo_pattern_49 : decode b_Mo_pattern 49 = .ok (.iinc 3 1, 3) := by decide +kernel
theorem d_Mo_pattern_52 : decode b_Mo_pattern 52 = .ok (.goto (-20), 3) := by decide +kernel
theorem d_Mo_pattern_55 : decode b_Mo_pattern 55 = .ok (.aload_n 0, 1) := by decide +kernel
theorem d_Mo_pattern_56 : decode b_Mo_pattern 56 = .ok (.getfield 77, 3) := by decide +kernel
theorem d_Mo_pattern_59 : decode b_Mo_pattern 59 = .ok (.istore 4, 2) := by decide +kernel
theorem d_Mo_pattern_61 : decode b_Mo_pattern 61 = .ok (.aload_n 0, 1) := by decide +kernel
theorem d_Mo_pattern_62 : decode b_Mo_pattern 62 = .ok (.invokevirtual 87, 3) := by decide +kernel
theorem d_Mo_pattern_65 : decode b_Mo_pattern 65 = .ok (.istore 5, 2) := by decide +kernel
theorem d_Mo_pattern_67 : decode b_Mo_pattern 67 = .ok (.aload_n 0, 1) := by decide +kernel
theorem d_Mo_pattern_68 : decode b_Mo_pattern 68 = .ok (.iconst 0, 1) := by decide +kernel
theorem d_Mo_pattern_69 : decode b_Mo_pattern 69 = .ok (.putfield 77, 3) := by decide +kernel
theorem d_Mo_pattern_72 : decode b_Mo_pattern 72 = .ok (.iload 5, 2) := by decide +kernel
theorem d_Mo_pattern_74 : decode b_Mo_pattern 74 = .ok (.ifCond .ne 6, 3) := by decide +kernel
theorem d_Mo_pattern_77 : decode b_Mo_pattern 77 = .ok (.bipush (-3), 2) := by decide +kernel
theorem d_Mo_pattern_79 : decode b_Mo_pattern 79 = .ok (.ireturn, 1) := by decide +kernel
theorem d_Mo_pattern_80 : decode b_Mo_pattern 80 = .ok (.iload_n 3, 1) := by decide +kernel
theorem d_Mo_pattern_81 : decode b_Mo_pattern 81 = .ok (.aload_n 0, 1) := by decide +kernel
theorem d_Mo_pattern_82 : decode b_Mo_pattern 82 = .ok (.getfield 80, 3) := by decide +kernel
theorem d_Mo_pattern_85 : decode b_Mo_pattern 85 = .ok (.if_icmp .ne 100, 3) := by decide +kernel
theorem d_Mo_pattern_88 : decode b_Mo_pattern 88 = .ok (.aload_n 0, 1) := by decide +kernel
theorem d_Mo_pattern_89 : decode b_Mo_pattern 89 = .ok (.getfield 80, 3) := by decide +kernel
theorem d_Mo_pattern_92 : decode b_Mo_pattern 92 = .ok (.sipush 150, 3) := by decide +kernel
theorem d_Mo_pattern_95 : decode b_Mo_pattern 95 = .ok (.if_icmp .eq 16, 3) := by decide +kernel
theorem d_Mo_pattern_98 : decode b_Mo_pattern 98 = .ok (.aload_n 0, 1) := by decide +kernel
theorem d_Mo_pattern_99 : decode b_Mo_pattern 99 = .ok (.getfield 91, 3) := by decide +kernel
theorem d_Mo_pattern_102 : decode b_Mo_pattern 102 = .ok (.iload 4, 2) := by decide +kernel
theorem d_Mo_pattern_104 : decode b_Mo_pattern 104 = .ok (.iadd, 1) := by decide +kernel
theorem d_Mo_pattern_105 : decode b_Mo_pattern 105 = .ok (.sipush 900, 3) := by decide +kernel
theorem d_Mo_pattern_108 : decode b_Mo_pattern 108 = .ok (.if_icmp .le 6, 3) := by decide +kernel
theorem d_Mo_pattern_111 : decode b_Mo_pattern 111 = .ok (.bipush (-2), 2) := by decide +kernel
theorem d_Mo_pattern_113 : decode b_Mo_pattern 113 = .ok (.ireturn, 1) := by decide +kernel
theorem d_Mo_pattern_114 : decode b_Mo_pattern 114 = .ok (.aload_n 0, 1) := by decide +kernel
theorem d_Mo_pattern_115 : decode b_Mo_pattern 115 = .ok (.getfield 32, 3) := by decide +kernel
theorem d_Mo_pattern_118 : decode b_Mo_pattern 118 = .ok (.iload_n 3, 1) := by decide +kernel
theorem d_Mo_pattern_119 : decode b_Mo_pattern 119 = .ok (.iload_n 1, 1) := by decide +kernel
theorem d_Mo_pattern_120 : decode b_Mo_pattern 120 = .ok (.iastore, 1) := by decide +kernel
theorem d_Mo_pattern_121 : decode b_Mo_pattern 121 = .ok (.aload_n 0, 1) := by decide +kernel
theorem d_Mo_pattern_122 : decode b_Mo_pattern 122 = .ok (.getfield 35, 3) := by decide +kernel
theorem d_Mo_pattern_125 : decode b_Mo_pattern 125 = .ok (.iload_n 3, 1) := by decide +kernel
theorem d_Mo_pattern_126 : decode b_Mo_pattern 126 = .ok (.iload 4, 2) := by decide +kernel
theorem d_Mo_pattern_128 : decode b_Mo_pattern 128 = .ok (.iastore, 1) := by decide +kernel
theorem d_Mo_pattern_129 : decode b_Mo_pattern 129 = .ok (.iconst 0, 1) := by decide +kernel
theorem d_Mo_pattern_130 : decode b_Mo_pattern 130 = .ok (.istore 6, 2) := by decide +kernel
theorem d_Mo_pattern_132 : decode b_Mo_pattern 132 = .ok (.iload 6, 2) := by decide +kernel
theorem d_Mo_pattern_134 : decode b_Mo_pattern 134 = .ok (.iload 4, 2) := by decide +kernel
theorem d_Mo_pattern_136 : decode b_Mo_pattern 136 = .ok (.if_icmp .ge 28, 3) := by decide +kernel
theorem d_Mo_pattern_139 : decode b_Mo_pattern 139 = .ok (.aload_n 0, 1) := by decide +kernel
theorem d_Mo_pattern_140 : decode b_Mo_pattern 140 = .ok (.getfield 38, 3) := by decide +kernel
theorem d_Mo_pattern_143 : decode b_Mo_pattern 143 = .ok (.bipush 12, 2) := by decide +kernel
theorem d_Mo_pattern_145 : decode b_Mo_pattern 145 = .ok (.iload_n 3, 1) := by decide +kernel
theorem d_Mo_pattern_146 : decode b_Mo_pattern 146 = .ok (.imul, 1) := by decide +kernel
theorem d_Mo_pattern_147 : decode b_Mo_pattern 147 = .ok (.iload 6, 2) := by decide +kernel
theorem d_Mo_pattern_149 : decode b_Mo_pattern 149 = .ok (.iadd, 1) := by decide +kernel
theorem d_Mo_pattern_150 : decode b_Mo_pattern 150 = .ok (.aload_n 0, 1) := by decide +kernel
theorem d_Mo_pattern_151 : decode b_Mo_pattern 151 = .ok (.getfield 26, 3) := by decide +kernel
theorem d_Mo_pattern_154 : decode b_Mo_pattern 154 = .ok (.iload 6, 2) := by decide +kernel
theorem d_Mo_pattern_156 : decode b_Mo_pattern 156 = .ok (.iaload, 1) := by decide +kernel
theorem d_Mo_pattern_157 : decode b_Mo_pattern 157 = .ok (.iastore, 1) := by decide +kernel
theorem d_Mo_pattern_158 : decode b_Mo_pattern 158 = .ok (.iinc 6 1, 3) := by decide +kernel
theorem d_Mo_pattern_161 : decode b_Mo_pattern 161 = .ok (.goto (-29), 3) := by decide +kernel
theorem d_Mo_pattern_164 : decode b_Mo_pattern 164 = .ok (.aload_n 0, 1) := by decide +kernel
theorem d_Mo_pattern_165 : decode b_Mo_pattern 165 = .ok (.dup, 1) := by decide +kernel
theorem d_Mo_pattern_166 : decode b_Mo_pattern 166 = .ok (.getfield 91, 3) := by decide +kernel
theorem d_Mo_pattern_169 : decode b_Mo_pattern 169 = .ok (.iload 4, 2) := by decide +kernel
theorem d_Mo_pattern_171 : decode b_Mo_pattern 171 = .ok (.iadd, 1) := by decide +kernel
theorem d_Mo_pattern_172 : decode b_Mo_pattern 172 = .ok (.putfield 91, 3) := by decide +kernel
theorem d_Mo_pattern_175 : decode b_Mo_pattern 175 = .ok (.aload_n 0, 1) := by decide +kernel
theorem d_Mo_pattern_176 : decode b_Mo_pattern 176 = .ok (.dup, 1) := by decide +kernel
theorem d_Mo_pattern_177 : decode b_Mo_pattern 177 = .ok (.getfield 80, 3) := by decide +kernel
theorem d_Mo_pattern_180 : decode b_Mo_pattern 180 = .ok (.iconst 1, 1) := by decide +kernel
theorem d_Mo_pattern_181 : decode b_Mo_pattern 181 = .ok (.iadd, 1) := by decide +kernel
theorem d_Mo_pattern_182 : decode b_Mo_pattern 182 = .ok (.putfield 80, 3) := by decide +kernel
theorem d_Mo_pattern_185 : decode b_Mo_pattern 185 = .ok (.iconst 0, 1) := by decide +kernel
theorem d_Mo_pattern_186 : decode b_Mo_pattern 186 = .ok (.istore 6, 2) := by decide +kernel
theorem d_Mo_pattern_188 : decode b_Mo_pattern 188 = .ok (.iload 6, 2) := by decide +kernel
theorem d_Mo_pattern_190 : decode b_Mo_pattern 190 = .ok (.iload 4, 2) := by decide +kernel
theorem d_Mo_pattern_192 : decode b_Mo_pattern 192 = .ok (.if_icmp .gt 28, 3) := by decide +kernel
theorem d_Mo_pattern_195 : decode b_Mo_pattern 195 = .ok (.aload_n 0, 1) := by decide +kernel
theorem d_Mo_pattern_196 : decode b_Mo_pattern 196 = .ok (.getfield 41, 3) := by decide +kernel
theorem d_Mo_pattern_199 : decode b_Mo_pattern 199 = .ok (.bipush 13, 2) := by decide +kernel
theorem d_Mo_pattern_201 : decode b_Mo_pattern 201 = .ok (.iload_n 3, 1) := by decide +kernel
theorem d_Mo_pattern_202 : decode b_Mo_pattern 202 = .ok (.imul, 1) := by decide +kernel
theorem d_Mo_pattern_203 : decode b_Mo_pattern 203 = .ok (.iload 6, 2) := by decide +kernel
theorem d_Mo_pattern_205 : decode b_Mo_pattern 205 = .ok (.iadd, 1) := by decide +kernel
theorem d_Mo_pattern_206 : decode b_Mo_pattern 206 = .ok (.aload_n 0, 1) := by decide +kernel
theorem d_Mo_pattern_207 : decode b_Mo_pattern 207 = .ok (.getfield 29, 3) := by decide +kernel
theorem d_Mo_pattern_210 : decode b_Mo_pattern 210 = .ok (.iload 6, 2) := by decide +kernel
theorem d_Mo_pattern_212 : decode b_Mo_pattern 212 = .ok (.iaload, 1) := by decide +kernel
theorem d_Mo_pattern_213 : decode b_Mo_pattern 213 = .ok (.iastore, 1) := by decide +kernel
theorem d_Mo_pattern_214 : decode b_Mo_pattern 214 = .ok (.iinc 6 1, 3) := by decide +kernel
theorem d_Mo_pattern_217 : decode b_Mo_pattern 217 = .ok (.goto (-29), 3) := by decide +kernel
theorem d_Mo_pattern_220 : decode b_Mo_pattern 220 = .ok (.iload_n 3, 1) := by decide +kernel
theorem d_Mo_pattern_221 : decode b_Mo_pattern 221 = .ok (.ireturn, 1) := by decide +kernel
theorem d_Mo_isSame_0 : decode b_Mo_isSame 0 = .ok (.aload_n 0, 1) := by decide +kernel
theorem d_Mo_isSame_1 : decode b_Mo_isSame 1 = .ok (.getfield 32, 3) := by decide +kernel
theorem d_Mo_isSame_4 : decode b_Mo_isSame 4 = .ok (.iload_n 1, 1) := by decide +kernel
theorem d_Mo_isSame_5 : decode b_Mo_isSame 5 = .ok (.iaload, 1) := by decide +kernel
theorem d_Mo_isSame_6 : decode b_Mo_isSame 6 = .ok (.iload_n 2, 1) := by decide +kernel
theorem d_Mo_isSame_7 : decode b_Mo_isSame 7 = .ok (.if_icmp .ne 20, 3) := by decide +kernel
theorem d_Mo_isSame_10 : decode b_Mo_isSame 10 = .ok (.aload_n 0, 1) := by decide +kernel
theorem d_Mo_isSame_11 : decode b_Mo_isSame 11 = .ok (.getfield 35, 3) := by decide +kernel
theorem d_Mo_isSame_14 : decode b_Mo_isSame 14 = .ok (.iload_n 1, 1) := by decide +kernel
theorem d_Mo_isSame_15 : decode b_Mo_isSame 15 = .ok (.iaload, 1) := by decide +kernel
theorem d_Mo_isSame_16 : decode b_Mo_isSame 16 = .ok (.aload_n 0, 1) := by decide +kernel
theorem d_Mo_isSame_17 : decode b_Mo_isSame 17 = .ok (.getfield 77, 3) := by decide +kernel
theorem d_Mo_isSame_20 : decode b_Mo_isSame 20 = .ok (.if_icmp .ne 7, 3) := by decide +kernel
theorem d_Mo_isSame_23 : decode b_Mo_isSame 23 = .ok (.iconst 1, 1) := by decide +kernel
theorem d_Mo_isSame_24 : decode b_Mo_isSame 24 = .ok (.goto 4, 3) := by decide +kernel
theorem d_Mo_isSame_27 : decode b_Mo_isSame 27 = .ok (.iconst 0, 1) := by decide +kernel
theorem d_Mo_isSame_28 : decode b_Mo_isSame 28 = .ok (.istore_n 3, 1) := by decide +kernel
theorem d_Mo_isSame_29 : decode b_Mo_isSame 29 = .ok (.iconst 0, 1) := by decide +kernel
theorem d_Mo_isSame_30 : decode b_Mo_isSame 30 = .ok (.istore 4, 2) := by decide +kernel
theorem d_Mo_isSame_32 : decode b_Mo_isSame 32 = .ok (.iload 4, 2) := by decide +kernel
theorem d_Mo_isSame_34 : decode b_Mo_isSame 34 = .ok (.aload_n 0, 1) := by decide +kernel
theorem d_Mo_isSame_35 : decode b_Mo_isSame 35 = .ok (.getfield 77, 3) := by decide +kernel
theorem d_Mo_isSame_38 : decode b_Mo_isSame 38 = .ok (.if_icmp .ge 41, 3) := by decide +kernel
theorem d_Mo_isSame_41 : decode b_Mo_isSame 41 = .ok (.iload_n 3, 1) := by decide +kernel
theorem d_Mo_isSame_42 : decode b_Mo_isSame 42 = .ok (.ifCond .eq 37, 3) := by decide +kernel
theorem d_Mo_isSame_45 : decode b_Mo_isSame 45 = .ok (.aload_n 0, 1) := by decide +kernel
theorem d_Mo_isSame_46 : decode b_Mo_isSame 46 = .ok (.getfield 38, 3) := by decide +kernel
theorem d_Mo_isSame_49 : decode b_Mo_isSame 49 = .ok (.bipush 12, 2) := by decide +kernel
theorem d_Mo_isSame_51 : decode b_Mo_isSame 51 = .ok (.iload_n 1, 1) := by decide +kernel
theorem d_Mo_isSame_52 : decode b_Mo_isSame 52 = .ok (.imul, 1) := by decide +kernel
theorem d_Mo_isSame_53 : decode b_Mo_isSame 53 = .ok (.iload 4, 2) := by decide +kernel
theorem d_Mo_isSame_55 : decode b_Mo_isSame 55 = .ok (.iadd, 1) := by decide +kernel
theorem d_Mo_isSame_56 : decode b_Mo_isSame 56 = .ok (.iaload, 1) := by decide +kernel
theorem d_Mo_isSame_57 : decode b_Mo_isSame 57 = .ok (.aload_n 0, 1) := by decide +kernel
theorem d_Mo_isSame_58 : decode b_Mo_isSame 58 = .ok (.getfield 26, 3) := by decide +kernel
theorem d_Mo_isSame_61 : decode b_Mo_isSame 61 = .ok (.iload 4, 2) := by decide +kernel
theorem d_Mo_isSame_63 : decode b_Mo_isSame 63 = .ok (.iaload, 1) := by decide +kernel
theorem d_Mo_isSame_64 : decode b_Mo_isSame 64 = .ok (.if_icmp .ne 7, 3) := by decide +kernel
theorem d_Mo_isSame_67 : decode b_Mo_isSame 67 = .ok (.iconst 1, 1) := by decide +kernel
theorem d_Mo_isSame_68 : decode b_Mo_isSame 68 = .ok (.goto 4, 3) := by decide +kernel
theorem d_Mo_isSame_71 : decode b_Mo_isSame 71 = .ok (.iconst 0, 1) := by decide +kernel
theorem d_Mo_isSame_72 : decode b_Mo_isSame 72 = .ok (.istore_n 3, 1) := by decide +kernel
theorem d_Mo_isSame_73 : decode b_Mo_isSame 73 = .ok (.iinc 4 1, 3) := by decide +kernel
theorem d_Mo_isSame_76 : decode b_Mo_isSame 76 = .ok (.goto (-44), 3) := by decide +kernel
theorem d_Mo_isSame_79 : decode b_Mo_isSame 79 = .ok (.iload_n 3, 1) := by decide +kernel
theorem d_Mo_isSame_80 : decode b_Mo_isSame 80 = .ok (.ireturn, 1) := by decide +kernel
theorem d_Mo_isPattern_0 : decode b_Mo_isPattern 0 = .ok (.iconst 0, 1) := by decide +kernel
theorem d_Mo_isPattern_1 : decode b_Mo_isPattern 1 = .ok (.istore_n 1, 1) := by decide +kernel
theorem d_Mo_isPattern_2 : decode b_Mo_isPattern 2 = .ok (.iconst 0, 1) := by decide +kernel
theorem d_Mo_isPattern_3 : decode b_Mo_isPattern 3 = .ok (.istore_n 2, 1) := by decide +kernel
theorem d_Mo_isPattern_4 : decode b_Mo_isPattern 4 = .ok (.iconst 0, 1) := by decide +kernel
theorem d_Mo_isPattern_5 : decode b_Mo_isPattern 5 = .ok (.istore_n 3, 1) := by decide +kernel
theorem d_Mo_isPattern_6 : decode b_Mo_isPattern 6 = .ok (.iload_n 3, 1) := by decide +kernel
theorem d_Mo_isPattern_7 : decode b_Mo_isPattern 7 = .ok (.aload_n 0, 1) := by decide +kernel
theorem d_Mo_isPattern_8 : decode b_Mo_isPattern 8 = .ok (.getfield 77, 3) := by decide +kernel
theorem d_Mo_isPattern_11 : decode b_Mo_isPattern 11 = .ok (.if_icmp .ge 61, 3) := by decide +kernel
theorem d_Mo_isPattern_14 : decode b_Mo_isPattern 14 = .ok (.iload_n 1, 1) := by decide +kernel
theorem d_Mo_isPattern_15 : decode b_Mo_isPattern 15 = .ok (.ifCond .ne 12, 3) := by decide +kernel
theorem d_Mo_isPattern_18 : decode b_Mo_isPattern 18 = .ok (.aload_n 0, 1) := by decide +kernel
theorem d_Mo_isPattern_19 : decode b_Mo_isPattern 19 = .ok (.getfield 26, 3) := by decide +kernel
theorem d_Mo_isPattern_22 : decode b_Mo_isPattern 22 = .ok (.iload_n 3, 1) := by decide +kernel
theorem d_Mo_isPattern_23 : decode b_Mo_isPattern 23 = .ok (.iaload, 1) := by decide +kernel
theorem d_Mo_isPattern_24 : decode b_Mo_isPattern 24 = .ok (.ifCond .le 7, 3) := by decide +kernel
theorem d_Mo_isPattern_27 : decode b_Mo_isPattern 27 = .ok (.iconst 1, 1) := by decide +kernel
theorem d_Mo_isPattern_28 : decode b_Mo_isPattern 28 = .ok (.goto 4, 3) := by decide +kernel
theorem d_Mo_isPattern_31 : decode b_Mo_isPattern 31 = .ok (.iconst 0, 1) := by decide +kernel
theorem d_Mo_isPattern_32 : decode b_Mo_isPattern 32 = .ok (.istore_n 1, 1) := by decide +kernel
theorem d_Mo_isPattern_33 : decode b_Mo_isPattern 33 = .ok (.iload_n 2, 1) := by decide +kernel
theorem d_Mo_isPattern_34 : decode b_Mo_isPattern 34 = .ok (.ifCond .ne 26, 3) := by decide +kernel
theorem d_Mo_isPattern_37 : decode b_Mo_isPattern 37 = .ok (.aload_n 0, 1) := by decide +kernel
theorem d_Mo_isPattern_38 : decode b_Mo_isPattern 38 = .ok (.getfield 26, 3) := by decide +kernel
theorem d_Mo_isPattern_41 : decode b_Mo_isPattern 41 = .ok (.iload_n 3, 1) := by decide +kernel
theorem d_Mo_isPattern_42 : decode b_Mo_isPattern 42 = .ok (.iaload, 1) := by decide +kernel
theorem d_Mo_isPattern_43 : decode b_Mo_isPattern 43 = .ok (.ifCond .ne 21, 3) := by decide +kernel
theorem d_Mo_isPattern_46 : decode b_Mo_isPattern 46 = .ok (.iload_n 3, 1) := by decide +kernel
theorem d_Mo_isPattern_47 : decode b_Mo_isPattern 47 = .ok (.ifCond .le 17, 3) := by decide +kernel
theorem d_Mo_isPattern_50 : decode b_Mo_isPattern 50 = .ok (.iload_n 3, 1) := by decide +kernel
theorem d_Mo_isPattern_51 : decode b_Mo_isPattern 51 = .ok (.aload_n 0, 1) := by decide +kernel
theorem d_Mo_isPattern_52 : decode b_Mo_isPattern 52 = .ok (.getfield 77, 3) := by decide +kernel
theorem d_Mo_isPattern_55 : decode b_Mo_isPattern 55 = .ok (.iconst 1, 1) := by decide +kernel
theorem d_Mo_isPattern_56 : decode b_Mo_isPattern 56 = .ok (.isub, 1) := by decide +kernel
theorem d_Mo_isPattern_57 : decode b_Mo_isPattern 57 = .ok (.if_icmp .ge 7, 3) := by decide +kernel
theorem d_Mo_isPattern_60 : decode b_Mo_isPattern 60 = .ok (.iconst 1, 1) := by decide +kernel
theorem d_Mo_isPattern_61 : decode b_Mo_isPattern 61 = .ok (.goto 4, 3) := by decide +kernel
theorem d_Mo_isPattern_64 : decode b_Mo_isPattern 64 = .ok (.iconst 0, 1) := by decide +kernel
theorem d_Mo_isPattern_65 : decode b_Mo_isPattern 65 = .ok (.istore_n 2, 1) := by decide +kernel
theorem d_Mo_isPattern_66 : decode b_Mo_isPattern 66 = .ok (.iinc 3 1, 3) := by decide +kernel
theorem d_Mo_isPattern_69 : decode b_Mo_isPattern 69 = .ok (.goto (-63), 3) := by decide +kernel
theorem d_Mo_isPattern_72 : decode b_Mo_isPattern 72 = .ok (.iload_n 1, 1) := by decide +kernel
theorem d_Mo_isPattern_73 : decode b_Mo_isPattern 73 = .ok (.ifCond .eq 11, 3) := by decide +kernel
theorem d_Mo_isPattern_76 : decode b_Mo_isPattern 76 = .ok (.iload_n 2, 1) := by decide +kernel
theorem d_Mo_isPattern_77 : decode b_Mo_isPattern 77 = .ok (.ifCond .ne 7, 3) := by decide +kernel
theorem d_Mo_isPattern_80 : decode b_Mo_isPattern 80 = .ok (.iconst 1, 1) := by decide +kernel
theorem d_Mo_isPattern_81 : decode b_Mo_isPattern 81 = .ok (.goto 4, 3) := by decide +kernel
theorem d_Mo_isPattern_84 : decode b_Mo_isPattern 84 = .ok (.iconst 0, 1) := by decide +kernel
theorem d_Mo_isPattern_85 : decode b_Mo_isPattern 85 = .ok (.ireturn, 1) := by decide +kernel
theorem d_Mo_sign_0 : decode b_Mo_sign 0 = .ok (.iload_n 1, 1) := by decide +kernel
theorem d_Mo_sign_1 : decode b_Mo_sign 1 = .ok (.iconst 0, 1) := by decide +kernel
theorem d_Mo_sign_2 : decode b_Mo_sign 2 = .ok (.sipush 255, 3) := by decide +kernel
theorem d_Mo_sign_5 : decode b_Mo_sign 5 = .ok (.invokestatic 73, 3) := by decide +kernel
theorem d_Mo_sign_8 : decode b_Mo_sign 8 = .ok (.ifCond .ne 5, 3) := by decide +kernel
theorem d_Mo_sign_11 : decode b_Mo_sign 11 = .ok (.iconst (-1), 1) := by decide +kernel
theorem d_Mo_sign_12 : decode b_Mo_sign 12 = .ok (.ireturn, 1) := by decide +kernel
theorem d_Mo_sign_13 : decode b_Mo_sign 13 = .ok (.aload_n 0, 1) := by decide +kernel
theorem d_Mo_sign_14 : decode b_Mo_sign 14 = .ok (.getfield 94, 3) := by decide +kernel
theorem d_Mo_sign_17 : decode b_Mo_sign 17 = .ok (.bipush 30, 2) := by decide +kernel
theorem d_Mo_sign_19 : decode b_Mo_sign 19 = .ok (.if_icmp .ne 6, 3) := by decide +kernel
theorem d_Mo_sign_22 : decode b_Mo_sign 22 = .ok (.bipush (-2), 2) := by decide +kernel
theorem d_Mo_sign_24 : decode b_Mo_sign 24 = .ok (.ireturn, 1) := by decide +kernel
theorem d_Mo_sign_25 : decode b_Mo_sign 25 = .ok (.aload_n 0, 1) := by decide +kernel
theorem d_Mo_sign_26 : decode b_Mo_sign 26 = .ok (.getfield 56, 3) := by decide +kernel
theorem d_Mo_sign_29 : decode b_Mo_sign 29 = .ok (.aload_n 0, 1) := by decide +kernel
theorem d_Mo_sign_30 : decode b_Mo_sign 30 = .ok (.getfield 94, 3) := by decide +kernel
theorem d_Mo_sign_33 : decode b_Mo_sign 33 = .ok (.iload_n 1, 1) := by decide +kernel
theorem d_Mo_sign_34 : decode b_Mo_sign 34 = .ok (.iastore, 1) := by decide +kernel
theorem d_Mo_sign_35 : decode b_Mo_sign 35 = .ok (.aload_n 0, 1) := by decide +kernel
theorem d_Mo_sign_36 : decode b_Mo_sign 36 = .ok (.dup, 1) := by decide +kernel
theorem d_Mo_sign_37 : decode b_Mo_sign 37 = .ok (.getfield 94, 3) := by decide +kernel
theorem d_Mo_sign_40 : decode b_Mo_sign 40 = .ok (.iconst 1, 1) := by decide +kernel
theorem d_Mo_sign_41 : decode b_Mo_sign 41 = .ok (.iadd, 1) := by decide +kernel
theorem d_Mo_sign_42 : decode b_Mo_sign 42 = .ok (.putfield 94, 3) := by decide +kernel
theorem d_Mo_sign_45 : decode b_Mo_sign 45 = .ok (.aload_n 0, 1) := by decide +kernel
theorem d_Mo_sign_46 : decode b_Mo_sign 46 = .ok (.getfield 94, 3) := by decide +kernel
theorem d_Mo_sign_49 : decode b_Mo_sign 49 = .ok (.ireturn, 1) := by decide +kernel
theorem d_Mo_clear_0 : decode b_Mo_clear 0 = .ok (.aload_n 0, 1) := by decide +kernel
theorem d_Mo_clear_1 : decode b_Mo_clear 1 = .ok (.getfield 94, 3) := by decide +kernel
theorem d_Mo_clear_4 : decode b_Mo_clear 4 = .ok (.istore_n 1, 1) := by decide +kernel
theorem d_Mo_clear_5 : decode b_Mo_clear 5 = .ok (.aload_n 0, 1) := by decide +kernel
theorem d_Mo_clear_6 : decode b_Mo_clear 6 = .ok (.iconst 0, 1) := by decide +kernel
theorem d_Mo_clear_7 : decode b_Mo_clear 7 = .ok (.putfield 94, 3) := by decide +kernel
theorem d_Mo_clear_10 : decode b_Mo_clear 10 = .ok (.iload_n 1, 1) := by decide +kernel
theorem d_Mo_clear_11 : decode b_Mo_clear 11 = .ok (.ireturn, 1) := by decide +kernel
theorem d_Mo_exception_0 : decode b_Mo_exception 0 = .ok (.aload_n 0, 1) := by decide +kernel
theorem d_Mo_exception_1 : decode b_Mo_exception 1 = .ok (.iload_n 1, 1) := by decide +kernel
theorem d_Mo_exception_2 : decode b_Mo_exception 2 = .ok (.invokevirtual 69, 3) := by decide +kernel
theorem d_Mo_exception_5 : decode b_Mo_exception 5 = .ok (.ifCond .ne 5, 3) := by decide +kernel
theorem d_Mo_exception_8 : decode b_Mo_exception 8 = .ok (.iconst (-1), 1) := by decide +kernel
theorem d_Mo_exception_9 : decode b_Mo_exception 9 = .ok (.ireturn, 1) := by decide +kernel
theorem d_Mo_exception_10 : decode b_Mo_exception 10 = .ok (.aload_n 0, 1) := by decide +kernel
theorem d_Mo_exception_11 : decode b_Mo_exception 11 = .ok (.getfield 94, 3) := by decide +kernel
theorem d_Mo_exception_14 : decode b_Mo_exception 14 = .ok (.ifCond .eq 11, 3) := by decide +kernel
theorem d_Mo_exception_17 : decode b_Mo_exception 17 = .ok (.aload_n 0, 1) := by decide +kernel
theorem d_Mo_exception_18 : decode b_Mo_exception 18 = .ok (.iload_n 1, 1) := by decide +kernel
theorem d_Mo_exception_19 : decode b_Mo_exception 19 = .ok (.invokevirtual 100, 3) := by decide +kernel
theorem d_Mo_exception_22 : decode b_Mo_exception 22 = .ok (.ifCond .ne 6, 3) := by decide +kernel
theorem d_Mo_exception_25 : decode b_Mo_exception 25 = .ok (.bipush (-3), 2) := by decide +kernel
theorem d_Mo_exception_27 : decode b_Mo_exception 27 = .ok (.ireturn, 1) := by decide +kernel
theorem d_Mo_exception_28 : decode b_Mo_exception 28 = .ok (.aload_n 0, 1) := by decide +kernel
theorem d_Mo_exception_29 : decode b_Mo_exception 29 = .ok (.iload_n 1, 1) := by decide +kernel
theorem d_Mo_exception_30 : decode b_Mo_exception 30 = .ok (.invokevirtual 103, 3) := by decide +kernel
theorem d_Mo_exception_33 : decode b_Mo_exception 33 = .ok (.istore_n 3, 1) := by decide +kernel
theorem d_Mo_exception_34 : decode b_Mo_exception 34 = .ok (.iload_n 3, 1) := by decide +kernel
theorem d_Mo_exception_35 : decode b_Mo_exception 35 = .ok (.bipush 40, 2) := by decide +kernel
theorem d_Mo_exception_37 : decode b_Mo_exception 37 = .ok (.if_icmp .ne 6, 3) := by decide +kernel
theorem d_Mo_exception_40 : decode b_Mo_exception 40 = .ok (.bipush (-2), 2) := by decide +kernel
theorem d_Mo_exception_42 : decode b_Mo_exception 42 = .ok (.ireturn, 1) := by decide +kernel
theorem d_Mo_exception_43 : decode b_Mo_exception 43 = .ok (.iload_n 3, 1) := by decide +kernel
theorem d_Mo_exception_44 : decode b_Mo_exception 44 = .ok (.aload_n 0, 1) := by decide +kernel
theorem d_Mo_exception_45 : decode b_Mo_exception 45 = .ok (.getfield 97, 3) := by decide +kernel
theorem d_Mo_exception_48 : decode b_Mo_exception 48 = .ok (.if_icmp .ne 69, 3) := by decide +kernel
theorem d_Mo_exception_51 : decode b_Mo_exception 51 = .ok (.aload_n 0, 1) := by decide +kernel
theorem d_Mo_exception_52 : decode b_Mo_exception 52 = .ok (.getfield 44, 3) := by decide +kernel
theorem d_Mo_exception_55 : decode b_Mo_exception 55 = .ok (.iload_n 3, 1) := by decide +kernel
theorem d_Mo_exception_56 : decode b_Mo_exception 56 = .ok (.iload_n 1, 1) := by decide +kernel
theorem d_Mo_exception_57 : decode b_Mo_exception 57 = .ok (.iastore, 1) := by decide +kernel
theorem d_Mo_exception_58 : decode b_Mo_exception 58 = .ok (.aload_n 0, 1) := by decide +kernel
theorem d_Mo_exception_59 : decode b_Mo_exception 59 = .ok (.getfield 47, 3) := by decide +kernel
theorem d_Mo_exception_62 : decode b_Mo_exception 62 = .ok (.iload_n 3, 1) := by decide +kernel
theorem d_Mo_exception_63 : decode b_Mo_exception 63 = .ok (.aload_n 0, 1) := by decide +kernel
theorem d_Mo_exception_64 : decode b_Mo_exception 64 = .ok (.getfield 94, 3) := by decide +kernel
theorem d_Mo_exception_67 : decode b_Mo_exception 67 = .ok (.iastore, 1) := by decide +kernel
theorem d_Mo_exception_68 : decode b_Mo_exception 68 = .ok (.iconst 0, 1) := by decide +kernel
theorem d_Mo_exception_69 : decode b_Mo_exception 69 = .ok (.istore 4, 2) := by decide +kernel
theorem d_Mo_exception_71 : decode b_Mo_exception 71 = .ok (.iload 4, 2) := by decide +kernel
theorem d_Mo_exception_73 : decode b_Mo_exception 73 = .ok (.aload_n 0, 1) := by decide +kernel
theorem d_Mo_exception_74 : decode b_Mo_exception 74 = .ok (.getfield 94, 3) := by decide +kernel
theorem d_Mo_exception_77 : decode b_Mo_exception 77 = .ok (.if_icmp .ge 30, 3) := by decide +kernel
theorem d_Mo_exception_80 : decode b_Mo_exception 80 = .ok (.aload_n 0, 1) := by decide +kernel
theorem d_Mo_exception_81 : decode b_Mo_exception 81 = .ok (.getfield 50, 3) := by decide +kernel
theorem d_Mo_exception_84 : decode b_Mo_exception 84 = .ok (.bipush 30, 2) := by decide +kernel
theorem d_Mo_exception_86 : decode b_Mo_exception 86 = .ok (.iload_n 3, 1) := by decide +kernel
theorem d_Mo_exception_87 : decode b_Mo_exception 87 = .ok (.imul, 1) := by decide +kernel
theorem d_Mo_exception_88 : decode b_Mo_exception 88 = .ok (.iload 4, 2) := by decide +kernel
theorem d_Mo_exception_90 : decode b_Mo_exception 90 = .ok (.iadd, 1) := by decide +kernel
theorem d_Mo_exception_91 : decode b_Mo_exception 91 = .ok (.aload_n 0, 1) := by decide +kernel
theorem d_Mo_exception_92 : decode b_Mo_exception 92 = .ok (.getfield 59, 3) := by decide +kernel
theorem d_Mo_exception_95 : decode b_Mo_exception 95 = .ok (.iload 4, 2) := by decide +kernel
theorem d_Mo_exception_97 : decode b_Mo_exception 97 = .ok (.iconst 1, 1) := by decide +kernel
theorem d_Mo_exception_98 : decode b_Mo_exception 98 = .ok (.iadd, 1) := by decide +kernel
theorem d_Mo_exception_99 : decode b_Mo_exception 99 = .ok (.iaload, 1) := by decide +kernel
theorem d_Mo_exception_100 : decode b_Mo_exception 100 = .ok (.iastore, 1) := by decide +kernel
theorem d_Mo_exception_101 : decode b_Mo_exception 101 = .ok (.iinc 4 1, 3) := by decide +kernel
theorem d_Mo_exception_104 : decode b_Mo_exception 104 = .ok (.goto (-33), 3) := by decide +kernel
theorem d_Mo_exception_107 : decode b_Mo_exception 107 = .ok (.aload_n 0, 1) := by decide +kernel
theorem d_Mo_exception_108 : decode b_Mo_exception 108 = .ok (.dup, 1) := by decide +kernel
theorem d_Mo_exception_109 : decode b_Mo_exception 109 = .ok (.getfield 97, 3) := by decide +kernel
theorem d_Mo_exception_112 : decode b_Mo_exception 112 = .ok (.iconst 1, 1) := by decide +kernel
theorem d_Mo_exception_113 : decode b_Mo_exception 113 = .ok (.iadd, 1) := by decide +kernel
theorem d_Mo_exception_114 : decode b_Mo_exception 114 = .ok (.putfield 97, 3) := by decide +kernel
theorem d_Mo_exception_117 : decode b_Mo_exception 117 = .ok (.aload_n 0, 1) := by decide +kernel
theorem d_Mo_exception_118 : decode b_Mo_exception 118 = .ok (.getfield 53, 3) := by decide +kernel
theorem d_Mo_exception_121 : decode b_Mo_exception 121 = .ok (.iload_n 3, 1) := by decide +kernel
theorem d_Mo_exception_122 : decode b_Mo_exception 122 = .ok (.iload_n 2, 1) := by decide +kernel
theorem d_Mo_exception_123 : decode b_Mo_exception 123 = .ok (.iastore, 1) := by decide +kernel
theorem d_Mo_exception_124 : decode b_Mo_exception 124 = .ok (.iload_n 3, 1) := by decide +kernel
theorem d_Mo_exception_125 : decode b_Mo_exception 125 = .ok (.ireturn, 1) := by decide +kernel
theorem d_Mo_spell_0 : decode b_Mo_spell 0 = .ok (.iconst 1, 1) := by decide +kernel
theorem d_Mo_spell_1 : decode b_Mo_spell 1 = .ok (.istore_n 2, 1) := by decide +kernel
theorem d_Mo_spell_2 : decode b_Mo_spell 2 = .ok (.aload_n 0, 1) := by decide +kernel
theorem d_Mo_spell_3 : decode b_Mo_spell 3 = .ok (.getfield 59, 3) := by decide +kernel
theorem d_Mo_spell_6 : decode b_Mo_spell 6 = .ok (.iconst 0, 1) := by decide +kernel
theorem d_Mo_spell_7 : decode b_Mo_spell 7 = .ok (.iconst 0, 1) := by decide +kernel
theorem d_Mo_spell_8 : decode b_Mo_spell 8 = .ok (.iastore, 1) := by decide +kernel
theorem d_Mo_spell_9 : decode b_Mo_spell 9 = .ok (.aload_n 0, 1) := by decide +kernel
theorem d_Mo_spell_10 : decode b_Mo_spell 10 = .ok (.getfield 59, 3) := by decide +kernel
theorem d_Mo_spell_13 : decode b_Mo_spell 13 = .ok (.aload_n 0, 1) := by decide +kernel
theorem d_Mo_spell_14 : decode b_Mo_spell 14 = .ok (.getfield 94, 3) := by decide +kernel
theorem d_Mo_spell_17 : decode b_Mo_spell 17 = .ok (.iconst 1, 1) := by decide +kernel
theorem d_Mo_spell_18 : decode b_Mo_spell 18 = .ok (.iadd, 1) := by decide +kernel
theorem d_Mo_spell_19 : decode b_Mo_spell 19 = .ok (.iconst 0, 1) := by decide +kernel
theorem d_Mo_spell_20 : decode b_Mo_spell 20 = .ok (.iastore, 1) := by decide +kernel
theorem d_Mo_spell_21 : decode b_Mo_spell 21 = .ok (.iconst 0, 1) := by decide +kernel
theorem d_Mo_spell_22 : decode b_Mo_spell 22 = .ok (.istore_n 3, 1) := by decide +kernel
theorem d_Mo_spell_23 : decode b_Mo_spell 23 = .ok (.iload_n 3, 1) := by decide +kernel
theorem d_Mo_spell_24 : decode b_Mo_spell 24 = .ok (.aload_n 0, 1) := by decide +kernel
theorem d_Mo_spell_25 : decode b_Mo_spell 25 = .ok (.getfield 94, 3) := by decide +kernel
theorem d_Mo_spell_28 : decode b_Mo_spell 28 = .ok (.if_icmp .ge 55, 3) := by decide +kernel
theorem d_Mo_spell_31 : decode b_Mo_spell 31 = .ok (.aload_n 0, 1) := by decide +kernel
theorem d_Mo_spell_32 : decode b_Mo_spell 32 = .ok (.getfield 59, 3) := by decide +kernel
theorem d_Mo_spell_35 : decode b_Mo_spell 35 = .ok (.iload_n 3, 1) := by decide +kernel
theorem d_Mo_spell_36 : decode b_Mo_spell 36 = .ok (.iconst 1, 1) := by decide +kernel
theorem d_Mo_spell_37 : decode b_Mo_spell 37 = .ok (.iadd, 1) := by decide +kernel
theorem d_Mo_spell_38 : decode b_Mo_spell 38 = .ok (.aload_n 0, 1) := by decide +kernel
theorem d_Mo_spell_39 : decode b_Mo_spell 39 = .ok (.getfield 7, 3) := by decide +kernel
theorem d_Mo_spell_42 : decode b_Mo_spell 42 = .ok (.sipush 256, 3) := by decide +kernel
theorem d_Mo_spell_45 : decode b_Mo_spell 45 = .ok (.iload_n 1, 1) := by decide +kernel
theorem d_Mo_spell_46 : decode b_Mo_spell 46 = .ok (.imul, 1) := by decide +kernel
theorem d_Mo_spell_47 : decode b_Mo_spell 47 = .ok (.aload_n 0, 1) := by decide +kernel
theorem d_Mo_spell_48 : decode b_Mo_spell 48 = .ok (.getfield 56, 3) := by decide +kernel
theorem d_Mo_spell_51 : decode b_Mo_spell 51 = .ok (.iload_n 3, 1) := by decide +kernel
theorem d_Mo_spell_52 : decode b_Mo_spell 52 = .ok (.iaload, 1) := by decide +kernel
theorem d_Mo_spell_53 : decode b_Mo_spell 53 = .ok (.iadd, 1) := by decide +kernel
theorem d_Mo_spell_54 : decode b_Mo_spell 54 = .ok (.iaload, 1) := by decide +kernel
theorem d_Mo_spell_55 : decode b_Mo_spell 55 = .ok (.iastore, 1) := by decide +kernel
theorem d_Mo_spell_56 : decode b_Mo_spell 56 = .ok (.iload_n 2, 1) := by decide +kernel
theorem d_Mo_spell_57 : decode b_Mo_spell 57 = .ok (.ifCond .eq 18, 3) := by decide +kernel
theorem d_Mo_spell_60 : decode b_Mo_spell 60 = .ok (.aload_n 0, 1) := by decide +kernel
theorem d_Mo_spell_61 : decode b_Mo_spell 61 = .ok (.getfield 59, 3) := by decide +kernel
theorem d_Mo_spell_64 : decode b_Mo_spell 64 = .ok (.iload_n 3, 1) := by decide +kernel
theorem d_Mo_spell_65 : decode b_Mo_spell 65 = .ok (.iconst 1, 1) := by decide +kernel
theorem d_Mo_spell_66 : decode b_Mo_spell 66 = .ok (.iadd, 1) := by decide +kernel
theorem d_Mo_spell_67 : decode b_Mo_spell 67 = .ok (.iaload, 1) := by decide +kernel
theorem d_Mo_spell_68 : decode b_Mo_spell 68 = .ok (.ifCond .le 7, 3) := by decide +kernel
theorem d_Mo_spell_71 : decode b_Mo_spell 71 = .ok (.iconst 1, 1) := by decide +kernel
theorem d_Mo_spell_72 : decode b_Mo_spell 72 = .ok (.goto 4, 3) := by decide +kernel
theorem d_Mo_spell_75 : decode b_Mo_spell 75 = .ok (.iconst 0, 1) := by decide +kernel
theorem d_Mo_spell_76 : decode b_Mo_spell 76 = .ok (.istore_n 2, 1) := by decide +kernel
theorem d_Mo_spell_77 : decode b_Mo_spell 77 = .ok (.iinc 3 1, 3) := by decide +kernel
theorem d_Mo_spell_80 : decode b_Mo_spell 80 = .ok (.goto (-57), 3) := by decide +kernel
theorem d_Mo_spell_83 : decode b_Mo_spell 83 = .ok (.iload_n 2, 1) := by decide +kernel
theorem d_Mo_spell_84 : decode b_Mo_spell 84 = .ok (.ireturn, 1) := by decide +kernel
theorem d_Mo_exceptionOf_0 : decode b_Mo_exceptionOf 0 = .ok (.iconst 0, 1) := by decide +kernel
theorem d_Mo_exceptionOf_1 : decode b_Mo_exceptionOf 1 = .ok (.istore_n 2, 1) := by decide +kernel
theorem d_Mo_exceptionOf_2 : decode b_Mo_exceptionOf 2 = .ok (.iconst 0, 1) := by decide +kernel
theorem d_Mo_exceptionOf_3 : decode b_Mo_exceptionOf 3 = .ok (.istore_n 3, 1) := by decide +kernel
theorem d_Mo_exceptionOf_4 : decode b_Mo_exceptionOf 4 = .ok (.iload_n 2, 1) := by decide +kernel
theorem d_Mo_exceptionOf_5 : decode b_Mo_exceptionOf 5 = .ok (.aload_n 0, 1) := by decide +kernel
theorem d_Mo_exceptionOf_6 : decode b_Mo_exceptionOf 6 = .ok (.getfield 97, 3) := by decide +kernel
theorem d_Mo_exceptionOf_9 : decode b_Mo_exceptionOf 9 = .ok (.if_icmp .ge 103, 3) := by decide +kernel
theorem d_Mo_exceptionOf_12 : decode b_Mo_exceptionOf 12 = .ok (.iload_n 3, 1) := by decide +kernel
theorem d_Mo_exceptionOf_13 : decode b_Mo_exceptionOf 13 = .ok (.ifCond .ne 99, 3) := by decide +kernel
theorem d_Mo_exceptionOf_16 : decode b_Mo_exceptionOf 16 = .ok (.aload_n 0, 1) := by decide +kernel
theorem d_Mo_exceptionOf_17 : decode b_Mo_exceptionOf 17 = .ok (.getfield 44, 3) := by decide +kernel
theorem d_Mo_exceptionOf_20 : decode b_Mo_exceptionOf 20 = .ok (.iload_n 2, 1) := by decide +kernel
theorem d_Mo_exceptionOf_21 : decode b_Mo_exceptionOf 21 = .ok (.iaload, 1) := by decide +kernel
theorem d_Mo_exceptionOf_22 : decode b_Mo_exceptionOf 22 = .ok (.iload_n 1, 1) := by decide +kernel
theorem d_Mo_exceptionOf_23 : decode b_Mo_exceptionOf 23 = .ok (.if_icmp .ne 20, 3) := by decide +kernel
theorem d_Mo_exceptionOf_26 : decode b_Mo_exceptionOf 26 = .ok (.aload_n 0, 1) := by decide +kernel
theorem d_Mo_exceptionOf_27 : decode b_Mo_exceptionOf 27 = .ok (.getfield 47, 3) := by decide +kernel
theorem d_Mo_exceptionOf_30 : decode b_Mo_exceptionOf 30 = .ok (.iload_n 2, 1) := by decide +kernel
theorem d_Mo_exceptionOf_31 : decode b_Mo_exceptionOf 31 = .ok (.iaload, 1) := by decide +kernel
theorem d_Mo_exceptionOf_32 : decode b_Mo_exceptionOf 32 = .ok (.aload_n 0, 1) := by decide +kernel
theorem d_Mo_exceptionOf_33 : decode b_Mo_exceptionOf 33 = .ok (.getfield 94, 3) := by decide +kernel
theorem d_Mo_exceptionOf_36 : decode b_Mo_exceptionOf 36 = .ok (.if_icmp .ne 7, 3) := by decide +kernel
theorem d_Mo_exceptionOf_39 : decode b_Mo_exceptionOf 39 = .ok (.iconst 1, 1) := by decide +kernel
theorem d_Mo_exceptionOf_40 : decode b_Mo_exceptionOf 40 = .ok (.goto 4, 3) := by decide +kernel
theorem d_Mo_exceptionOf_43 : decode b_Mo_exceptionOf 43 = .ok (.iconst 0, 1) := by decide +kernel
theorem d_Mo_exceptionOf_44 : decode b_Mo_exceptionOf 44 = .ok (.istore_n 3, 1) := by decide +kernel
theorem d_Mo_exceptionOf_45 : decode b_Mo_exceptionOf 45 = .ok (.iconst 0, 1) := by decide +kernel
theorem d_Mo_exceptionOf_46 : decode b_Mo_exceptionOf 46 = .ok (.istore 4, 2) := by decide +kernel
theorem d_Mo_exceptionOf_48 : decode b_Mo_exceptionOf 48 = .ok (.iload 4, 2) := by decide +kernel
theorem d_Mo_exceptionOf_50 : decode b_Mo_exceptionOf 50 = .ok (.aload_n 0, 1) := by decide +kernel
theorem d_Mo_exceptionOf_51 : decode b_Mo_exceptionOf 51 = .ok (.getfield 94, 3) := by decide +kernel
theorem d_Mo_exceptionOf_54 : decode b_Mo_exceptionOf 54 = .ok (.if_icmp .ge 43, 3) := by decide +kernel
theorem d_Mo_exceptionOf_57 : decode b_Mo_exceptionOf 57 = .ok (.iload_n 3, 1) := by decide +kernel
theorem d_Mo_exceptionOf_58 : decode b_Mo_exceptionOf 58 = .ok (.ifCond .eq 39, 3) := by decide +kernel
theorem d_Mo_exceptionOf_61 : decode b_Mo_exceptionOf 61 = .ok (.aload_n 0, 1) := by decide +kernel
theorem d_Mo_exceptionOf_62 : decode b_Mo_exceptionOf 62 = .ok (.getfield 50, 3) := by decide +kernel
theorem d_Mo_exceptionOf_65 : decode b_Mo_exceptionOf 65 = .ok (.bipush 30, 2) := by decide +kernel
theorem d_Mo_exceptionOf_67 : decode b_Mo_exceptionOf 67 = .ok (.iload_n 2, 1) := by decide +kernel
theorem d_Mo_exceptionOf_68 : decode b_Mo_exceptionOf 68 = .ok (.imul, 1) := by decide +kernel
theorem d_Mo_exceptionOf_69 : decode b_Mo_exceptionOf 69 = .ok (.iload 4, 2) := by decide +kernel
theorem d_Mo_exceptionOf_71 : decode b_Mo_exceptionOf 71 = .ok (.iadd, 1) := by decide +kernel
theorem d_Mo_exceptionOf_72 : decode b_Mo_exceptionOf 72 = .ok (.iaload, 1) := by decide +kernel
theorem d_Mo_exceptionOf_73 : decode b_Mo_exceptionOf 73 = .ok (.aload_n 0, 1) := by decide +kernel
theorem d_Mo_exceptionOf_74 : decode b_Mo_exceptionOf 74 = .ok (.getfield 59, 3) := by decide +kernel
theorem d_Mo_exceptionOf_77 : decode b_Mo_exceptionOf 77 = .ok (.iload 4, 2) := by decide +kernel
theorem d_Mo_exceptionOf_79 : decode b_Mo_exceptionOf 79 = .ok (.iconst 1, 1) := by decide +kernel
theorem d_Mo_exceptionOf_80 : decode b_Mo_exceptionOf 80 = .ok (.iadd, 1) := by decide +kernel
theorem d_Mo_exceptionOf_81 : decode b_Mo_exceptionOf 81 = .ok (.iaload, 1) := by decide +kernel
theorem d_Mo_exceptionOf_82 : decode b_Mo_exceptionOf 82 = .ok (.if_icmp .ne 7, 3) := by decide +kernel
theorem d_Mo_exceptionOf_85 : decode b_Mo_exceptionOf 85 = .ok (.iconst 1, 1) := by decide +kernel
theorem d_Mo_exceptionOf_86 : decode b_Mo_exceptionOf 86 = .ok (.goto 4, 3) := by decide +kernel
theorem d_Mo_exceptionOf_89 : decode b_Mo_exceptionOf 89 = .ok (.iconst 0, 1) := by decide +kernel
theorem d_Mo_exceptionOf_90 : decode b_Mo_exceptionOf 90 = .ok (.istore_n 3, 1) := by decide +kernel
theorem d_Mo_exceptionOf_91 : decode b_Mo_exceptionOf 91 = .ok (.iinc 4 1, 3) := by decide +kernel
theorem d_Mo_exceptionOf_94 : decode b_Mo_exceptionOf 94 = .ok (.goto (-46), 3) := by decide +kernel
theorem d_Mo_exceptionOf_97 : decode b_Mo_exceptionOf 97 = .ok (.iload_n 2, 1) := by decide +kernel
theorem d_Mo_exceptionOf_98 : decode b_Mo_exceptionOf 98 = .ok (.iload_n 3, 1) := by decide +kernel
theorem d_Mo_exceptionOf_99 : decode b_Mo_exceptionOf 99 = .ok (.ifCond .eq 7, 3) := by decide +kernel
theorem d_Mo_exceptionOf_102 : decode b_Mo_exceptionOf 102 = .ok (.iconst 0, 1) := by decide +kernel
theorem d_Mo_exceptionOf_103 : decode b_Mo_exceptionOf 103 = .ok (.goto 4, 3) := by decide +kernel
theorem d_Mo_exceptionOf_106 : decode b_Mo_exceptionOf 106 = .ok (.iconst 1, 1) := by decide +kernel
theorem d_Mo_exceptionOf_107 : decode b_Mo_exceptionOf 107 = .ok (.iadd, 1) := by decide +kernel
theorem d_Mo_exceptionOf_108 : decode b_Mo_exceptionOf 108 = .ok (.istore_n 2, 1) := by decide +kernel
theorem d_Mo_exceptionOf_109 : decode b_Mo_exceptionOf 109 = .ok (.goto (-105), 3) := by decide +kernel
theorem d_Mo_exceptionOf_112 : decode b_Mo_exceptionOf 112 = .ok (.iload_n 2, 1) := by decide +kernel
theorem d_Mo_exceptionOf_113 : decode b_Mo_exceptionOf 113 = .ok (.ireturn, 1) := by decide +kernel
theorem d_Mo_drop_0 : decode b_Mo_drop 0 = .ok (.iload_n 1, 1) := by decide +kernel
theorem d_Mo_drop_1 : decode b_Mo_drop 1 = .ok (.ifCond .lt 11, 3) := by decide +kernel
theorem d_Mo_drop_4 : decode b_Mo_drop 4 = .ok (.iload_n 1, 1) := by decide +kernel
theorem d_Mo_drop_5 : decode b_Mo_drop 5 = .ok (.aload_n 0, 1) := by decide +kernel
theorem d_Mo_drop_6 : decode b_Mo_drop 6 = .ok (.getfield 97, 3) := by decide +kernel
theorem d_Mo_drop_9 : decode b_Mo_drop 9 = .ok (.if_icmp .lt 5, 3) := by decide +kernel
theorem d_Mo_drop_12 : decode b_Mo_drop 12 = .ok (.iconst (-1), 1) := by decide +kernel
theorem d_Mo_drop_13 : decode b_Mo_drop 13 = .ok (.ireturn, 1) := by decide +kernel
theorem d_Mo_drop_14 : decode b_Mo_drop 14 = .ok (.aload_n 0, 1) := by decide +kernel
theorem d_Mo_drop_15 : decode b_Mo_drop 15 = .ok (.dup, 1) := by decide +kernel
theorem d_Mo_drop_16 : decode b_Mo_drop 16 = .ok (.getfield 97, 3) := by decide +kernel
theorem d_Mo_drop_19 : decode b_Mo_drop 19 = .ok (.iconst 1, 1) := by decide +kernel
theorem d_Mo_drop_20 : decode b_Mo_drop 20 = .ok (.isub, 1) := by decide +kernel
theorem d_Mo_drop_21 : decode b_Mo_drop 21 = .ok (.putfield 97, 3) := by decide +kernel
theorem d_Mo_drop_24 : decode b_Mo_drop 24 = .ok (.iload_n 1, 1) := by decide +kernel
theorem d_Mo_drop_25 : decode b_Mo_drop 25 = .ok (.istore_n 2, 1) := by decide +kernel
theorem d_Mo_drop_26 : decode b_Mo_drop 26 = .ok (.iload_n 2, 1) := by decide +kernel
theorem d_Mo_drop_27 : decode b_Mo_drop 27 = .ok (.aload_n 0, 1) := by decide +kernel
theorem d_Mo_drop_28 : decode b_Mo_drop 28 = .ok (.getfield 97, 3) := by decide +kernel
theorem d_Mo_drop_31 : decode b_Mo_drop 31 = .ok (.if_icmp .ge 90, 3) := by decide +kernel
theorem d_Mo_drop_34 : decode b_Mo_drop 34 = .ok (.aload_n 0, 1) := by decide +kernel
theorem d_Mo_drop_35 : decode b_Mo_drop 35 = .ok (.getfield 44, 3) := by decide +kernel
theorem d_Mo_drop_38 : decode b_Mo_drop 38 = .ok (.iload_n 2, 1) := by decide +kernel
theorem d_Mo_drop_39 : decode b_Mo_drop 39 = .ok (.aload_n 0, 1) := by decide +kernel
theorem d_Mo_drop_40 : decode b_Mo_drop 40 = .ok (.getfield 44, 3) := by decide +kernel
theorem d_Mo_drop_43 : decode b_Mo_drop 43 = .ok (.iload_n 2, 1) := by decide +kernel
theorem d_Mo_drop_44 : decode b_Mo_drop 44 = .ok (.iconst 1, 1) := by decide +kernel
theorem d_Mo_drop_45 : decode b_Mo_drop 45 = .ok (.iadd, 1) := by decide +kernel
theorem d_Mo_drop_46 : decode b_Mo_drop 46 = .ok (.iaload, 1) := by decide +kernel
theorem d_Mo_drop_47 : decode b_Mo_drop 47 = .ok (.iastore, 1) := by decide +kernel
theorem d_Mo_drop_48 : decode b_Mo_drop 48 = .ok (.aload_n 0, 1) := by decide +kernel
theorem d_Mo_drop_49 : decode b_Mo_drop 49 = .ok (.getfield 47, 3) := by decide +kernel
theorem d_Mo_drop_52 : decode b_Mo_drop 52 = .ok (.iload_n 2, 1) := by decide +kernel
theorem d_Mo_drop_53 : decode b_Mo_drop 53 = .ok (.aload_n 0, 1) := by decide +kernel
theorem d_Mo_drop_54 : decode b_Mo_drop 54 = .ok (.getfield 47, 3) := by decide +kernel
theorem d_Mo_drop_57 : decode b_Mo_drop 57 = .ok (.iload_n 2, 1) := by decide +kernel
theorem d_Mo_drop_58 : decode b_Mo_drop 58 = .ok (.iconst 1, 1) := by decide +kernel
theorem d_Mo_drop_59 : decode b_Mo_drop 59 = .ok (.iadd, 1) := by decide +kernel
theorem d_Mo_drop_60 : decode b_Mo_drop 60 = .ok (.iaload, 1) := by decide +kernel
theorem d_Mo_drop_61 : decode b_Mo_drop 61 = .ok (.iastore, 1) := by decide +kernel
theorem d_Mo_drop_62 : decode b_Mo_drop 62 = .ok (.aload_n 0, 1) := by decide +kernel
theorem d_Mo_drop_63 : decode b_Mo_drop 63 = .ok (.getfield 53, 3) := by decide +kernel
theorem d_Mo_drop_66 : decode b_Mo_drop 66 = .ok (.iload_n 2, 1) := by decide +kernel
theorem d_Mo_drop_67 : decode b_Mo_drop 67 = .ok (.aload_n 0, 1) := by decide +kernel
theorem d_Mo_drop_68 : decode b_Mo_drop 68 = .ok (.getfield 53, 3) := by decide +kernel
theorem d_Mo_drop_71 : decode b_Mo_drop 71 = .ok (.iload_n 2, 1) := by decide +kernel
theorem d_Mo_drop_72 : decode b_Mo_drop 72 = .ok (.iconst 1, 1) := by decide +kernel
theorem d_Mo_drop_73 : decode b_Mo_drop 73 = .ok (.iadd, 1) := by decide +kernel
theorem d_Mo_drop_74 : decode b_Mo_drop 74 = .ok (.iaload, 1) := by decide +kernel
theorem d_Mo_drop_75 : decode b_Mo_drop 75 = .ok (.iastore, 1) := by decide +kernel
theorem d_Mo_drop_76 : decode b_Mo_drop 76 = .ok (.iconst 0, 1) := by decide +kernel
theorem d_Mo_drop_77 : decode b_Mo_drop 77 = .ok (.istore_n 3, 1) := by decide +kernel
theorem d_Mo_drop_78 : decode b_Mo_drop 78 = .ok (.iload_n 3, 1) := by decide +kernel
theorem d_Mo_drop_79 : decode b_Mo_drop 79 = .ok (.bipush 30, 2) := by decide +kernel
theorem d_Mo_drop_81 : decode b_Mo_drop 81 = .ok (.if_icmp .ge 34, 3) := by decide +kernel
theorem d_Mo_drop_84 : decode b_Mo_drop 84 = .ok (.aload_n 0, 1) := by decide +kernel
theorem d_Mo_drop_85 : decode b_Mo_drop 85 = .ok (.getfield 50, 3) := by decide +kernel
theorem d_Mo_drop_88 : decode b_Mo_drop 88 = .ok (.bipush 30, 2) := by decide +kernel
theorem d_Mo_drop_90 : decode b_Mo_drop 90 = .ok (.iload_n 2, 1) := by decide +kernel
theorem d_Mo_drop_91 : decode b_Mo_drop 91 = .ok (.imul, 1) := by decide +kernel
theorem d_Mo_drop_92 : decode b_Mo_drop 92 = .ok (.iload_n 3, 1) := by decide +kernel
theorem d_Mo_drop_93 : decode b_Mo_drop 93 = .ok (.iadd, 1) := by decide +kernel
theorem d_Mo_drop_94 : decode b_Mo_drop 94 = .ok (.aload_n 0, 1) := by decide +kernel
theorem d_Mo_drop_95 : decode b_Mo_drop 95 = .ok (.getfield 50, 3) := by decide +kernel
theorem d_Mo_drop_98 : decode b_Mo_drop 98 = .ok (.bipush 30, 2) := by decide +kernel
theorem d_Mo_drop_100 : decode b_Mo_drop 100 = .ok (.iload_n 2, 1) := by decide +kernel
theorem d_Mo_drop_101 : decode b_Mo_drop 101 = .ok (.imul, 1) := by decide +kernel
theorem d_Mo_drop_102 : decode b_Mo_drop 102 = .ok (.bipush 30, 2) := by decide +kernel
theorem d_Mo_drop_104 : decode b_Mo_drop 104 = .ok (.iadd, 1) := by decide +kernel
theorem d_Mo_drop_105 : decode b_Mo_drop 105 = .ok (.iload_n 3, 1) := by decide +kernel
theorem d_Mo_drop_106 : decode b_Mo_drop 106 = .ok (.iadd, 1) := by decide +kernel
theorem d_Mo_drop_107 : decode b_Mo_drop 107 = .ok (.iaload, 1) := by decide +kernel
theorem d_Mo_drop_108 : decode b_Mo_drop 108 = .ok (.iastore, 1) := by decide +kernel
theorem d_Mo_drop_109 : decode b_Mo_drop 109 = .ok (.iinc 3 1, 3) := by decide +kernel
theorem d_Mo_drop_112 : decode b_Mo_drop 112 = .ok (.goto (-34), 3) := by decide +kernel
theorem d_Mo_drop_115 : decode b_Mo_drop 115 = .ok (.iinc 2 1, 3) := by decide +kernel
theorem d_Mo_drop_118 : decode b_Mo_drop 118 = .ok (.goto (-92), 3) := by decide +kernel
theorem d_Mo_drop_121 : decode b_Mo_drop 121 = .ok (.iconst 1, 1) := by decide +kernel
theorem d_Mo_drop_122 : decode b_Mo_drop 122 = .ok (.ireturn, 1) := by decide +kernel
theorem d_Mo_run_0 : decode b_Mo_run 0 = .ok (.aload_n 0, 1) := by decide +kernel
theorem d_Mo_run_1 : decode b_Mo_run 1 = .ok (.iload_n 1, 1) := by decide +kernel
theorem d_Mo_run_2 : decode b_Mo_run 2 = .ok (.invokevirtual 69, 3) := by decide +kernel
theorem d_Mo_run_5 : decode b_Mo_run 5 = .ok (.ifCond .ne 5, 3) := by decide +kernel
theorem d_Mo_run_8 : decode b_Mo_run 8 = .ok (.iconst (-1), 1) := by decide +kernel
theorem d_Mo_run_9 : decode b_Mo_run 9 = .ok (.ireturn, 1) := by decide +kernel
theorem d_Mo_run_10 : decode b_Mo_run 10 = .ok (.aload_n 0, 1) := by decide +kernel
theorem d_Mo_run_11 : decode b_Mo_run 11 = .ok (.iconst 0, 1) := by decide +kernel
theorem d_Mo_run_12 : decode b_Mo_run 12 = .ok (.putfield 110, 3) := by decide +kernel
theorem d_Mo_run_15 : decode b_Mo_run 15 = .ok (.aload_n 0, 1) := by decide +kernel
theorem d_Mo_run_16 : decode b_Mo_run 16 = .ok (.iload_n 1, 1) := by decide +kernel
theorem d_Mo_run_17 : decode b_Mo_run 17 = .ok (.invokevirtual 100, 3) := by decide +kernel
theorem d_Mo_run_20 : decode b_Mo_run 20 = .ok (.istore_n 2, 1) := by decide +kernel
theorem d_Mo_run_21 : decode b_Mo_run 21 = .ok (.aload_n 0, 1) := by decide +kernel
theorem d_Mo_run_22 : decode b_Mo_run 22 = .ok (.getfield 94, 3) := by decide +kernel
theorem d_Mo_run_25 : decode b_Mo_run 25 = .ok (.ifCond .le 36, 3) := by decide +kernel
theorem d_Mo_run_28 : decode b_Mo_run 28 = .ok (.aload_n 0, 1) := by decide +kernel
theorem d_Mo_run_29 : decode b_Mo_run 29 = .ok (.getfield 23, 3) := by decide +kernel
theorem d_Mo_run_32 : decode b_Mo_run 32 = .ok (.iload_n 1, 1) := by decide +kernel
theorem d_Mo_run_33 : decode b_Mo_run 33 = .ok (.baload, 1) := by decide +kernel
theorem d_Mo_run_34 : decode b_Mo_run 34 = .ok (.ifCond .eq 27, 3) := by decide +kernel
theorem d_Mo_run_37 : decode b_Mo_run 37 = .ok (.aload_n 0, 1) := by decide +kernel
theorem d_Mo_run_38 : decode b_Mo_run 38 = .ok (.getfield 13, 3) := by decide +kernel
theorem d_Mo_run_41 : decode b_Mo_run 41 = .ok (.sipush 256, 3) := by decide +kernel
theorem d_Mo_run_44 : decode b_Mo_run 44 = .ok (.iload_n 1, 1) := by decide +kernel
theorem d_Mo_run_45 : decode b_Mo_run 45 = .ok (.imul, 1) := by decide +kernel
theorem d_Mo_run_46 : decode b_Mo_run 46 = .ok (.aload_n 0, 1) := by decide +kernel
theorem d_Mo_run_47 : decode b_Mo_run 47 = .ok (.getfield 56, 3) := by decide +kernel
theorem d_Mo_run_50 : decode b_Mo_run 50 = .ok (.iconst 0, 1) := by decide +kernel
theorem d_Mo_run_51 : decode b_Mo_run 51 = .ok (.iaload, 1) := by decide +kernel
theorem d_Mo_run_52 : decode b_Mo_run 52 = .ok (.iadd, 1) := by decide +kernel
theorem d_Mo_run_53 : decode b_Mo_run 53 = .ok (.baload, 1) := by decide +kernel
theorem d_Mo_run_54 : decode b_Mo_run 54 = .ok (.ifCond .eq 7, 3) := by decide +kernel
theorem d_Mo_run_57 : decode b_Mo_run 57 = .ok (.iconst 1, 1) := by decide +kernel
theorem d_Mo_run_58 : decode b_Mo_run 58 = .ok (.goto 4, 3) := by decide +kernel
theorem d_Mo_run_61 : decode b_Mo_run 61 = .ok (.iconst 0, 1) := by decide +kernel
theorem d_Mo_run_62 : decode b_Mo_run 62 = .ok (.istore_n 3, 1) := by decide +kernel
theorem d_Mo_run_63 : decode b_Mo_run 63 = .ok (.aload_n 0, 1) := by decide +kernel
theorem d_Mo_run_64 : decode b_Mo_run 64 = .ok (.getfield 17, 3) := by decide +kernel
theorem d_Mo_run_67 : decode b_Mo_run 67 = .ok (.iload_n 1, 1) := by decide +kernel
theorem d_Mo_run_68 : decode b_Mo_run 68 = .ok (.iaload, 1) := by decide +kernel
theorem d_Mo_run_69 : decode b_Mo_run 69 = .ok (.iconst 1, 1) := by decide +kernel
theorem d_Mo_run_70 : decode b_Mo_run 70 = .ok (.if_icmp .ge 7, 3) := by decide +kernel
theorem d_Mo_run_73 : decode b_Mo_run 73 = .ok (.iconst 1, 1) := by decide +kernel
theorem d_Mo_run_74 : decode b_Mo_run 74 = .ok (.goto 9, 3) := by decide +kernel
theorem d_Mo_run_77 : decode b_Mo_run 77 = .ok (.aload_n 0, 1) := by decide +kernel
theorem d_Mo_run_78 : decode b_Mo_run 78 = .ok (.getfield 17, 3) := by decide +kernel
theorem d_Mo_run_81 : decode b_Mo_run 81 = .ok (.iload_n 1, 1) := by decide +kernel
theorem d_Mo_run_82 : decode b_Mo_run 82 = .ok (.iaload, 1) := by decide +kernel
theorem d_Mo_run_83 : decode b_Mo_run 83 = .ok (.istore 4, 2) := by decide +kernel
theorem d_Mo_run_85 : decode b_Mo_run 85 = .ok (.aload_n 0, 1) := by decide +kernel
theorem d_Mo_run_86 : decode b_Mo_run 86 = .ok (.getfield 94, 3) := by decide +kernel
theorem d_Mo_run_89 : decode b_Mo_run 89 = .ok (.aload_n 0, 1) := by decide +kernel
theorem d_Mo_run_90 : decode b_Mo_run 90 = .ok (.getfield 20, 3) := by decide +kernel
theorem d_Mo_run_93 : decode b_Mo_run 93 = .ok (.iload_n 1, 1) := by decide +kernel
theorem d_Mo_run_94 : decode b_Mo_run 94 = .ok (.iaload, 1) := by decide +kernel
theorem d_Mo_run_95 : decode b_Mo_run 95 = .ok (.iconst 1, 1) := by decide +kernel
theorem d_Mo_run_96 : decode b_Mo_run 96 = .ok (.if_icmp .ge 7, 3) := by decide +kernel
theorem d_Mo_run_99 : decode b_Mo_run 99 = .ok (.iconst 1, 1) := by decide +kernel
theorem d_Mo_run_100 : decode b_Mo_run 100 = .ok (.goto 9, 3) := by decide +kernel
theorem d_Mo_run_103 : decode b_Mo_run 103 = .ok (.aload_n 0, 1) := by decide +kernel
theorem d_Mo_run_104 : decode b_Mo_run 104 = .ok (.getfield 20, 3) := by decide +kernel
theorem d_Mo_run_107 : decode b_Mo_run 107 = .ok (.iload_n 1, 1) := by decide +kernel
theorem d_Mo_run_108 : decode b_Mo_run 108 = .ok (.iaload, 1) := by decide +kernel
theorem d_Mo_run_109 : decode b_Mo_run 109 = .ok (.isub, 1) := by decide +kernel
theorem d_Mo_run_110 : decode b_Mo_run 110 = .ok (.istore 5, 2) := by decide +kernel
theorem d_Mo_run_112 : decode b_Mo_run 112 = .ok (.iload 4, 2) := by decide +kernel
theorem d_Mo_run_114 : decode b_Mo_run 114 = .ok (.istore 6, 2) := by decide +kernel
theorem d_Mo_run_116 : decode b_Mo_run 116 = .ok (.iload 6, 2) := by decide +kernel
theorem d_Mo_run_118 : decode b_Mo_run 118 = .ok (.iload 5, 2) := by decide +kernel
theorem d_Mo_run_120 : decode b_Mo_run 120 = .ok (.if_icmp .gt 51, 3) := by decide +kernel
theorem d_Mo_run_123 : decode b_Mo_run 123 = .ok (.iload_n 2, 1) := by decide +kernel
theorem d_Mo_run_124 : decode b_Mo_run 124 = .ok (.ifCond .eq 47, 3) := by decide +kernel
theorem d_Mo_run_127 : decode b_Mo_run 127 = .ok (.iload_n 3, 1) := by decide +kernel
theorem d_Mo_run_128 : decode b_Mo_run 128 = .ok (.ifCond .ne 43, 3) := by decide +kernel
theorem d_Mo_run_131 : decode b_Mo_run 131 = .ok (.aload_n 0, 1) := by decide +kernel
theorem d_Mo_run_132 : decode b_Mo_run 132 = .ok (.iload_n 1, 1) := by decide +kernel
theorem d_Mo_run_133 : decode b_Mo_run 133 = .ok (.iload 6, 2) := by decide +kernel
theorem d_Mo_run_135 : decode b_Mo_run 135 = .ok (.invokevirtual 113, 3) := by decide +kernel
theorem d_Mo_run_138 : decode b_Mo_run 138 = .ok (.iconst 2, 1) := by decide +kernel
theorem d_Mo_run_139 : decode b_Mo_run 139 = .ok (.irem, 1) := by decide +kernel
theorem d_Mo_run_140 : decode b_Mo_run 140 = .ok (.iconst 1, 1) := by decide +kernel
theorem d_Mo_run_141 : decode b_Mo_run 141 = .ok (.if_icmp .ne 24, 3) := by decide +kernel
theorem d_Mo_run_144 : decode b_Mo_run 144 = .ok (.aload_n 0, 1) := by decide +kernel
theorem d_Mo_run_145 : decode b_Mo_run 145 = .ok (.getfield 62, 3) := by decide +kernel
theorem d_Mo_run_148 : decode b_Mo_run 148 = .ok (.aload_n 0, 1) := by decide +kernel
theorem d_Mo_run_149 : decode b_Mo_run 149 = .ok (.getfield 110, 3) := by decide +kernel
theorem d_Mo_run_152 : decode b_Mo_run 152 = .ok (.iload 6, 2) := by decide +kernel
theorem d_Mo_run_154 : decode b_Mo_run 154 = .ok (.iastore, 1) := by decide +kernel
theorem d_Mo_run_155 : decode b_Mo_run 155 = .ok (.aload_n 0, 1) := by decide +kernel
theorem d_Mo_run_156 : decode b_Mo_run 156 = .ok (.dup, 1) := by decide +kernel
theorem d_Mo_run_157 : decode b_Mo_run 157 = .ok (.getfield 110, 3) := by decide +kernel
theorem d_Mo_run_160 : decode b_Mo_run 160 = .ok (.iconst 1, 1) := by decide +kernel
theorem d_Mo_run_161 : decode b_Mo_run 161 = .ok (.iadd, 1) := by decide +kernel
theorem d_Mo_run_162 : decode b_Mo_run 162 = .ok (.putfield 110, 3) := by decide +kernel
theorem d_Mo_run_165 : decode b_Mo_run 165 = .ok (.iinc 6 1, 3) := by decide +kernel
theorem d_Mo_run_168 : decode b_Mo_run 168 = .ok (.goto (-52), 3) := by decide +kernel
theorem d_Mo_run_171 : decode b_Mo_run 171 = .ok (.aload_n 0, 1) := by decide +kernel
theorem d_Mo_run_172 : decode b_Mo_run 172 = .ok (.getfield 110, 3) := by decide +kernel
theorem d_Mo_run_175 : decode b_Mo_run 175 = .ok (.ireturn, 1) := by decide +kernel
theorem d_Mo_digitOf_0 : decode b_Mo_digitOf 0 = .ok (.aload_n 0, 1) := by decide +kernel
theorem d_Mo_digitOf_1 : decode b_Mo_digitOf 1 = .ok (.iload_n 1, 1) := by decide +kernel
theorem d_Mo_digitOf_2 : decode b_Mo_digitOf 2 = .ok (.invokevirtual 103, 3) := by decide +kernel
theorem d_Mo_digitOf_5 : decode b_Mo_digitOf 5 = .ok (.istore_n 3, 1) := by decide +kernel
theorem d_Mo_digitOf_6 : decode b_Mo_digitOf 6 = .ok (.iload_n 3, 1) := by decide +kernel
theorem d_Mo_digitOf_7 : decode b_Mo_digitOf 7 = .ok (.aload_n 0, 1) := by decide +kernel
theorem d_Mo_digitOf_8 : decode b_Mo_digitOf 8 = .ok (.getfield 97, 3) := by decide +kernel
theorem d_Mo_digitOf_11 : decode b_Mo_digitOf 11 = .ok (.if_icmp .ge 14, 3) := by decide +kernel
theorem d_Mo_digitOf_14 : decode b_Mo_digitOf 14 = .ok (.aload_n 0, 1) := by decide +kernel
theorem d_Mo_digitOf_15 : decode b_Mo_digitOf 15 = .ok (.getfield 53, 3) := by decide +kernel
theorem d_Mo_digitOf_18 : decode b_Mo_digitOf 18 = .ok (.iload_n 3, 1) := by decide +kernel
theorem d_Mo_digitOf_19 : decode b_Mo_digitOf 19 = .ok (.iaload, 1) := by decide +kernel
theorem d_Mo_digitOf_20 : decode b_Mo_digitOf 20 = .ok (.iload_n 2, 1) := by decide +kernel
theorem d_Mo_digitOf_21 : decode b_Mo_digitOf 21 = .ok (.ishr, 1) := by decide +kernel
theorem d_Mo_digitOf_22 : decode b_Mo_digitOf 22 = .ok (.iconst 1, 1) := by decide +kernel
theorem d_Mo_digitOf_23 : decode b_Mo_digitOf 23 = .ok (.iand, 1) := by decide +kernel
theorem d_Mo_digitOf_24 : decode b_Mo_digitOf 24 = .ok (.ireturn, 1) := by decide +kernel
theorem d_Mo_digitOf_25 : decode b_Mo_digitOf 25 = .ok (.iconst 0, 1) := by decide +kernel
theorem d_Mo_digitOf_26 : decode b_Mo_digitOf 26 = .ok (.istore 4, 2) := by decide +kernel
theorem d_Mo_digitOf_28 : decode b_Mo_digitOf 28 = .ok (.iconst 0, 1) := by decide +kernel
theorem d_Mo_digitOf_29 : decode b_Mo_digitOf 29 = .ok (.istore 5, 2) := by decide +kernel
theorem d_Mo_digitOf_31 : decode b_Mo_digitOf 31 = .ok (.iload 5, 2) := by decide +kernel
theorem d_Mo_digitOf_33 : decode b_Mo_digitOf 33 = .ok (.aload_n 0, 1) := by decide +kernel
theorem d_Mo_digitOf_34 : decode b_Mo_digitOf 34 = .ok (.getfield 80, 3) := by decide +kernel
theorem d_Mo_digitOf_37 : decode b_Mo_digitOf 37 = .ok (.if_icmp .ge 89, 3) := by decide +kernel
theorem d_Mo_digitOf_40 : decode b_Mo_digitOf 40 = .ok (.iconst 0, 1) := by decide +kernel
theorem d_Mo_digitOf_41 : decode b_Mo_digitOf 41 = .ok (.istore 6, 2) := by decide +kernel
theorem d_Mo_digitOf_43 : decode b_Mo_digitOf 43 = .ok (.iload 6, 2) := by decide +kernel
theorem d_Mo_digitOf_45 : decode b_Mo_digitOf 45 = .ok (.aload_n 0, 1) := by decide +kernel
theorem d_Mo_digitOf_46 : decode b_Mo_digitOf 46 = .ok (.getfield 35, 3) := by decide +kernel
theorem d_Mo_digitOf_49 : decode b_Mo_digitOf 49 = .ok (.iload 5, 2) := by decide +kernel
theorem d_Mo_digitOf_51 : decode b_Mo_digitOf 51 = .ok (.iaload, 1) := by decide +kernel
theorem d_Mo_digitOf_52 : decode b_Mo_digitOf 52 = .ok (.if_icmp .gt 68, 3) := by decide +kernel
theorem d_Mo_digitOf_55 : decode b_Mo_digitOf 55 = .ok (.aload_n 0, 1) := by decide +kernel
theorem d_Mo_digitOf_56 : decode b_Mo_digitOf 56 = .ok (.getfield 32, 3) := by decide +kernel
theorem d_Mo_digitOf_59 : decode b_Mo_digitOf 59 = .ok (.iload 5, 2) := by decide +kernel
theorem d_Mo_digitOf_61 : decode b_Mo_digitOf 61 = .ok (.iaload, 1) := by decide +kernel
theorem d_Mo_digitOf_62 : decode b_Mo_digitOf 62 = .ok (.iload_n 1, 1) := by decide +kernel
theorem d_Mo_digitOf_63 : decode b_Mo_digitOf 63 = .ok (.if_icmp .ne 57, 3) := by decide +kernel
theorem d_Mo_digitOf_66 : decode b_Mo_digitOf 66 = .ok (.aload_n 0, 1) := by decide +kernel
theorem d_Mo_digitOf_67 : decode b_Mo_digitOf 67 = .ok (.getfield 41, 3) := by decide +kernel
theorem d_Mo_digitOf_70 : decode b_Mo_digitOf 70 = .ok (.bipush 13, 2) := by decide +kernel
theorem d_Mo_digitOf_72 : decode b_Mo_digitOf 72 = .ok (.iload 5, 2) := by decide +kernel
theorem d_Mo_digitOf_74 : decode b_Mo_digitOf 74 = .ok (.imul, 1) := by decide +kernel
theorem d_Mo_digitOf_75 : decode b_Mo_digitOf 75 = .ok (.iload 6, 2) := by decide +kernel
theorem d_Mo_digitOf_77 : decode b_Mo_digitOf 77 = .ok (.iadd, 1) := by decide +kernel
theorem d_Mo_digitOf_78 : decode b_Mo_digitOf 78 = .ok (.iaload, 1) := by decide +kernel
theorem d_Mo_digitOf_79 : decode b_Mo_digitOf 79 = .ok (.iload 4, 2) := by decide +kernel
theorem d_Mo_digitOf_81 : decode b_Mo_digitOf 81 = .ok (.if_icmp .le 33, 3) := by decide +kernel
theorem d_Mo_digitOf_84 : decode b_Mo_digitOf 84 = .ok (.aload_n 0, 1) := by decide +kernel
theorem d_Mo_digitOf_85 : decode b_Mo_digitOf 85 = .ok (.iload 5, 2) := by decide +kernel
theorem d_Mo_digitOf_87 : decode b_Mo_digitOf 87 = .ok (.iload_n 2, 1) := by decide +kernel
theorem d_Mo_digitOf_88 : decode b_Mo_digitOf 88 = .ok (.iconst 1, 1) := by decide +kernel
theorem d_Mo_digitOf_89 : decode b_Mo_digitOf 89 = .ok (.iadd, 1) := by decide +kernel
theorem d_Mo_digitOf_90 : decode b_Mo_digitOf 90 = .ok (.iload 6, 2) := by decide +kernel
theorem d_Mo_digitOf_92 : decode b_Mo_digitOf 92 = .ok (.isub, 1) := by decide +kernel
theorem d_Mo_digitOf_93 : decode b_Mo_digitOf 93 = .ok (.invokevirtual 107, 3) := by decide +kernel
theorem d_Mo_digitOf_96 : decode b_Mo_digitOf 96 = .ok (.ifCond .eq 18, 3) := by decide +kernel
theorem d_Mo_digitOf_99 : decode b_Mo_digitOf 99 = .ok (.aload_n 0, 1) := by decide +kernel
theorem d_Mo_digitOf_100 : decode b_Mo_digitOf 100 = .ok (.getfield 41, 3) := by decide +kernel
theorem d_Mo_digitOf_103 : decode b_Mo_digitOf 103 = .ok (.bipush 13, 2) := by decide +kernel
theorem d_Mo_digitOf_105 : decode b_Mo_digitOf 105 = .ok (.iload 5, 2) := by decide +kernel
theorem d_Mo_digitOf_107 : decode b_Mo_digitOf 107 = .ok (.imul, 1) := by decide +kernel
theorem d_Mo_digitOf_108 : decode b_Mo_digitOf 108 = .ok (.iload 6, 2) := by decide +kernel
theorem d_Mo_digitOf_110 : decode b_Mo_digitOf 110 = .ok (.iadd, 1) := by decide +kernel
theorem d_Mo_digitOf_111 : decode b_Mo_digitOf 111 = .ok (.iaload, 1) := by decide +kernel
theorem d_Mo_digitOf_112 : decode b_Mo_digitOf 112 = .ok (.istore 4, 2) := by decide +kernel
theorem d_Mo_digitOf_114 : decode b_Mo_digitOf 114 = .ok (.iinc 6 1, 3) := by decide +kernel
theorem d_Mo_digitOf_117 : decode b_Mo_digitOf 117 = .ok (.goto (-74), 3) := by decide +kernel
theorem d_Mo_digitOf_120 : decode b_Mo_digitOf 120 = .ok (.iinc 5 1, 3) := by decide +kernel
theorem d_Mo_digitOf_123 : decode b_Mo_digitOf 123 = .ok (.goto (-92), 3) := by decide +kernel
theorem d_Mo_digitOf_126 : decode b_Mo_digitOf 126 = .ok (.iload 4, 2) := by decide +kernel
theorem d_Mo_digitOf_128 : decode b_Mo_digitOf 128 = .ok (.ireturn, 1) := by decide +kernel
theorem d_Mo_stands_0 : decode b_Mo_stands 0 = .ok (.iload_n 2, 1) := by decide +kernel
theorem d_Mo_stands_1 : decode b_Mo_stands 1 = .ok (.ifCond .lt 24, 3) := by decide +kernel
theorem d_Mo_stands_4 : decode b_Mo_stands 4 = .ok (.iload_n 2, 1) := by decide +kernel
theorem d_Mo_stands_5 : decode b_Mo_stands 5 = .ok (.aload_n 0, 1) := by decide +kernel
theorem d_Mo_stands_6 : decode b_Mo_stands 6 = .ok (.getfield 35, 3) := by decide +kernel
theorem d_Mo_stands_9 : decode b_Mo_stands 9 = .ok (.iload_n 1, 1) := by decide +kernel
theorem d_Mo_stands_10 : decode b_Mo_stands 10 = .ok (.iaload, 1) := by decide +kernel
theorem d_Mo_stands_11 : decode b_Mo_stands 11 = .ok (.iadd, 1) := by decide +kernel
theorem d_Mo_stands_12 : decode b_Mo_stands 12 = .ok (.aload_n 0, 1) := by decide +kernel
theorem d_Mo_stands_13 : decode b_Mo_stands 13 = .ok (.getfield 94, 3) := by decide +kernel
theorem d_Mo_stands_16 : decode b_Mo_stands 16 = .ok (.iconst 2, 1) := by decide +kernel
theorem d_Mo_stands_17 : decode b_Mo_stands 17 = .ok (.iadd, 1) := by decide +kernel
theorem d_Mo_stands_18 : decode b_Mo_stands 18 = .ok (.if_icmp .gt 7, 3) := by decide +kernel
theorem d_Mo_stands_21 : decode b_Mo_stands 21 = .ok (.iconst 1, 1) := by decide +kernel
theorem d_Mo_stands_22 : decode b_Mo_stands 22 = .ok (.goto 4, 3) := by decide +kernel
theorem d_Mo_stands_25 : decode b_Mo_stands 25 = .ok (.iconst 0, 1) := by decide +kernel
theorem d_Mo_stands_26 : decode b_Mo_stands 26 = .ok (.istore_n 3, 1) := by decide +kernel
theorem d_Mo_stands_27 : decode b_Mo_stands 27 = .ok (.iconst 0, 1) := by decide +kernel
theorem d_Mo_stands_28 : decode b_Mo_stands 28 = .ok (.istore 4, 2) := by decide +kernel
theorem d_Mo_stands_30 : decode b_Mo_stands 30 = .ok (.iload 4, 2) := by decide +kernel
theorem d_Mo_stands_32 : decode b_Mo_stands 32 = .ok (.aload_n 0, 1) := by decide +kernel
theorem d_Mo_stands_33 : decode b_Mo_stands 33 = .ok (.getfield 35, 3) := by decide +kernel
theorem d_Mo_stands_36 : decode b_Mo_stands 36 = .ok (.iload_n 1, 1) := by decide +kernel
theorem d_Mo_stands_37 : decode b_Mo_stands 37 = .ok (.iaload, 1) := by decide +kernel
theorem d_Mo_stands_38 : decode b_Mo_stands 38 = .ok (.if_icmp .ge 43, 3) := by decide +kernel
theorem d_Mo_stands_41 : decode b_Mo_stands 41 = .ok (.iload_n 3, 1) := by decide +kernel
theorem d_Mo_stands_42 : decode b_Mo_stands 42 = .ok (.ifCond .eq 39, 3) := by decide +kernel
theorem d_Mo_stands_45 : decode b_Mo_stands 45 = .ok (.aload_n 0, 1) := by decide +kernel
theorem d_Mo_stands_46 : decode b_Mo_stands 46 = .ok (.getfield 38, 3) := by decide +kernel
theorem d_Mo_stands_49 : decode b_Mo_stands 49 = .ok (.bipush 12, 2) := by decide +kernel
theorem d_Mo_stands_51 : decode b_Mo_stands 51 = .ok (.iload_n 1, 1) := by decide +kernel
theorem d_Mo_stands_52 : decode b_Mo_stands 52 = .ok (.imul, 1) := by decide +kernel
theorem d_Mo_stands_53 : decode b_Mo_stands 53 = .ok (.iload 4, 2) := by decide +kernel
theorem d_Mo_stands_55 : decode b_Mo_stands 55 = .ok (.iadd, 1) := by decide +kernel
theorem d_Mo_stands_56 : decode b_Mo_stands 56 = .ok (.iaload, 1) := by decide +kernel
theorem d_Mo_stands_57 : decode b_Mo_stands 57 = .ok (.aload_n 0, 1) := by decide +kernel
theorem d_Mo_stands_58 : decode b_Mo_stands 58 = .ok (.getfield 59, 3) := by decide +kernel
theorem d_Mo_stands_61 : decode b_Mo_stands 61 = .ok (.iload_n 2, 1) := by decide +kernel
theorem d_Mo_stands_62 : decode b_Mo_stands 62 = .ok (.iload 4, 2) := by decide +kernel
theorem d_Mo_stands_64 : decode b_Mo_stands 64 = .ok (.iadd, 1) := by decide +kernel
theorem d_Mo_stands_65 : decode b_Mo_stands 65 = .ok (.iaload, 1) := by decide +kernel
theorem d_Mo_stands_66 : decode b_Mo_stands 66 = .ok (.if_icmp .ne 7, 3) := by decide +kernel
theorem d_Mo_stands_69 : decode b_Mo_stands 69 = .ok (.iconst 1, 1) := by decide +kernel
theorem d_Mo_stands_70 : decode b_Mo_stands 70 = .ok (.goto 4, 3) := by decide +kernel
theorem d_Mo_stands_73 : decode b_Mo_stands 73 = .ok (.iconst 0, 1) := by decide +kernel
theorem d_Mo_stands_74 : decode b_Mo_stands 74 = .ok (.istore_n 3, 1) := by decide +kernel
theorem d_Mo_stands_75 : decode b_Mo_stands 75 = .ok (.iinc 4 1, 3) := by decide +kernel
theorem d_Mo_stands_78 : decode b_Mo_stands 78 = .ok (.goto (-48), 3) := by decide +kernel
theorem d_Mo_stands_81 : decode b_Mo_stands 81 = .ok (.iload_n 3, 1) := by decide +kernel
theorem d_Mo_stands_82 : decode b_Mo_stands 82 = .ok (.ireturn, 1) := by decide +kernel
theorem d_Mo_at_0 : decode b_Mo_at 0 = .ok (.iload_n 1, 1) := by decide +kernel
theorem d_Mo_at_1 : decode b_Mo_at 1 = .ok (.ifCond .lt 11, 3) := by decide +kernel
theorem d_Mo_at_4 : decode b_Mo_at 4 = .ok (.iload_n 1, 1) := by decide +kernel
theorem d_Mo_at_5 : decode b_Mo_at 5 = .ok (.aload_n 0, 1) := by decide +kernel
theorem d_Mo_at_6 : decode b_Mo_at 6 = .ok (.getfield 110, 3) := by decide +kernel
theorem d_Mo_at_9 : decode b_Mo_at 9 = .ok (.if_icmp .lt 7, 3) := by decide +kernel
theorem d_Mo_at_12 : decode b_Mo_at 12 = .ok (.iconst (-1), 1) := by decide +kernel
theorem d_Mo_at_13 : decode b_Mo_at 13 = .ok (.goto 9, 3) := by decide +kernel
theorem d_Mo_at_16 : decode b_Mo_at 16 = .ok (.aload_n 0, 1) := by decide +kernel
theorem d_Mo_at_17 : decode b_Mo_at 17 = .ok (.getfield 62, 3) := by decide +kernel
theorem d_Mo_at_20 : decode b_Mo_at 20 = .ok (.iload_n 1, 1) := by decide +kernel
theorem d_Mo_at_21 : decode b_Mo_at 21 = .ok (.iaload, 1) := by decide +kernel
theorem d_Mo_at_22 : decode b_Mo_at 22 = .ok (.ireturn, 1) := by decide +kernel
theorem d_Mo_digit_0 : decode b_Mo_digit 0 = .ok (.aload_n 0, 1) := by decide +kernel
theorem d_Mo_digit_1 : decode b_Mo_digit 1 = .ok (.iload_n 1, 1) := by decide +kernel
theorem d_Mo_digit_2 : decode b_Mo_digit 2 = .ok (.invokevirtual 69, 3) := by decide +kernel
theorem d_Mo_digit_5 : decode b_Mo_digit 5 = .ok (.ifCond .eq 15, 3) := by decide +kernel
theorem d_Mo_digit_8 : decode b_Mo_digit 8 = .ok (.iload_n 2, 1) := by decide +kernel
theorem d_Mo_digit_9 : decode b_Mo_digit 9 = .ok (.ifCond .lt 11, 3) := by decide +kernel
theorem d_Mo_digit_12 : decode b_Mo_digit 12 = .ok (.iload_n 2, 1) := by decide +kernel
theorem d_Mo_digit_13 : decode b_Mo_digit 13 = .ok (.aload_n 0, 1) := by decide +kernel
theorem d_Mo_digit_14 : decode b_Mo_digit 14 = .ok (.getfield 94, 3) := by decide +kernel
theorem d_Mo_digit_17 : decode b_Mo_digit 17 = .ok (.if_icmp .le 5, 3) := by decide +kernel
theorem d_Mo_digit_20 : decode b_Mo_digit 20 = .ok (.iconst (-1), 1) := by decide +kernel
theorem d_Mo_digit_21 : decode b_Mo_digit 21 = .ok (.ireturn, 1) := by decide +kernel
theorem d_Mo_digit_22 : decode b_Mo_digit 22 = .ok (.aload_n 0, 1) := by decide +kernel
theorem d_Mo_digit_23 : decode b_Mo_digit 23 = .ok (.iload_n 1, 1) := by decide +kernel
theorem d_Mo_digit_24 : decode b_Mo_digit 24 = .ok (.invokevirtual 100, 3) := by decide +kernel
theorem d_Mo_digit_27 : decode b_Mo_digit 27 = .ok (.ifCond .eq 12, 3) := by decide +kernel
theorem d_Mo_digit_30 : decode b_Mo_digit 30 = .ok (.aload_n 0, 1) := by decide +kernel
theorem d_Mo_digit_31 : decode b_Mo_digit 31 = .ok (.iload_n 1, 1) := by decide +kernel
theorem d_Mo_digit_32 : decode b_Mo_digit 32 = .ok (.iload_n 2, 1) := by decide +kernel
theorem d_Mo_digit_33 : decode b_Mo_digit 33 = .ok (.invokevirtual 113, 3) := by decide +kernel
theorem d_Mo_digit_36 : decode b_Mo_digit 36 = .ok (.goto 4, 3) := by decide +kernel
theorem d_Mo_digit_39 : decode b_Mo_digit 39 = .ok (.iconst 0, 1) := by decide +kernel
theorem d_Mo_digit_40 : decode b_Mo_digit 40 = .ok (.ireturn, 1) := by decide +kernel
theorem d_Mo_patterns_0 : decode b_Mo_patterns 0 = .ok (.aload_n 0, 1) := by decide +kernel
theorem d_Mo_patterns_1 : decode b_Mo_patterns 1 = .ok (.getfield 80, 3) := by decide +kernel
theorem d_Mo_patterns_4 : decode b_Mo_patterns 4 = .ok (.ireturn, 1) := by decide +kernel
theorem d_Mo_exceptions_0 : decode b_Mo_exceptions 0 = .ok (.aload_n 0, 1) := by decide +kernel
theorem d_Mo_exceptions_1 : decode b_Mo_exceptions 1 = .ok (.getfield 97, 3) := by decide +kernel
theorem d_Mo_exceptions_4 : decode b_Mo_exceptions 4 = .ok (.ireturn, 1) := by decide +kernel
end
section
/-! MAPS AS WORLDS: a world is a partial map from addresses to cells. A contract speaks of the whole world that a caller holds, so no call needs a cut or a join; what a method leaves alone is said by its map. -/
abbrev wd_M : Type := Nat → Option va_E
def wd_f (w : wd_M) : Nat → va_E := fun a => (w a).getD (.inr (0, []))
def wd_L (w : wd_M) (L : List Nat) : Prop := ∀ a : Nat, a ∈ L ↔ w a ≠ none
/-- the heap holds the world, and its addresses lie in A -/
def wd_H (D : va_G) (cl : List vw_C) (A : Nat → Prop) (w : wd_M) (H : Heap) : Prop := ∃ L : List Nat, wd_L w L ∧ va_P D cl ([] ++ va_pl L (wd_f w)) H ∧ va_D A ([] ++ va_pl L (wd_f w))
/-- the same, and since H0 nothing outside A has changed -/
def wd_W (D : va_G) (cl : List vw_C) (A : Nat → Prop) (w : wd_M) (H0 H : Heap) (locs : List Loc) : Prop := wd_H D cl A w H ∧ va_S A H0 H locs ∧ ∀ q : Nat, H0.size ≤ q → A q
def wd_A (w : wd_M) (sz : Nat) : Nat → Prop := fun q => w q ≠ none ∨ sz ≤ q
theorem wd_mem {w : wd_M} {L : List Nat} {a : Nat} {x : va_E} (hL : wd_L w L) (h : w a = some x) : a ∈ L := (hL a).mpr (by rw [h]; exact Option.some_ne_none x)
theorem wd_fa {w : wd_M} {a : Nat} {x : va_E} (h : w a = some x) : wd_f w a = x := by simp [wd_f, h]
theorem wd_upL {w : wd_M} {L : List Nat} {a : Nat} {x y : va_E} (hL : wd_L w L) (h : w a = some x) : wd_L (va_up w a (some y)) L := by
  intro b
  by_cases hb : b = a
  · subst hb
    rw [va_up_self]
    exact ⟨fun _ => Option.some_ne_none y, fun _ => wd_mem hL h⟩
  · rw [va_up_ne _ _ hb]
    exact hL b
theorem wd_upf {w : wd_M} {a : Nat} {y : va_E} : wd_f (va_up w a (some y)) = va_up (wd_f w) a y := by
  funext b
  by_cases hb : b = a
  · subst hb
    simp [wd_f, va_up]
  · simp [wd_f, va_up, hb]
theorem wd_newL {w : wd_M} {L : List Nat} {q : Nat} {y : va_E} (hL : wd_L w L) : wd_L (va_up w q (some y)) (L ++ [q]) := by
  intro b
  by_cases hb : b = q
  · subst hb
    rw [va_up_self]
    exact ⟨fun _ => Option.some_ne_none y, fun _ => List.mem_append.mpr (Or.inr (List.mem_singleton.mpr rfl))⟩
  · rw [va_up_ne _ _ hb, List.mem_append]
    refine ⟨fun h => ?_, fun h => Or.inl ((hL b).mpr h)⟩
    rcases h with h | h
    · exact (hL b).mp h
    · exact absurd (List.mem_singleton.mp h) hb
theorem wd_in {w : wd_M} {L : List Nat} {k : Nat} {x : Nat × va_E} (hL : wd_L w L) (h : ([] ++ va_pl L (wd_f w))[k]? = some x) : w x.1 ≠ none := by
  have h1 : x ∈ va_pl L (wd_f w) := List.mem_of_getElem? h
  obtain ⟨b, hb, e1⟩ := List.mem_map.mp h1
  rw [← e1]
  exact (hL b).mp hb
theorem wd_H.self {D : va_G} {cl : List vw_C} {A : Nat → Prop} {w : wd_M} {H : Heap} (h : wd_H D cl A w H) (sz : Nat) : wd_H D cl (wd_A w sz) w H := by
  obtain ⟨L, hL, hP, hD⟩ := h
  exact ⟨L, hL, hP, hD.weaken (fun k x hk _ => Or.inl (wd_in hL hk))⟩
theorem wd_H.weaken {D : va_G} {cl : List vw_C} {A B : Nat → Prop} {w : wd_M} {H : Heap} (h : wd_H D cl A w H) (hAB : ∀ q, A q → B q) : wd_H D cl B w H := by
  obtain ⟨L, hL, hP, hD⟩ := h
  exact ⟨L, hL, hP, hD.weaken (fun k x _ hx => hAB _ hx)⟩
theorem wd_H.inA {D : va_G} {cl : List vw_C} {A : Nat → Prop} {w : wd_M} {H : Heap} (h : wd_H D cl A w H) {a : Nat} {x : va_E} (ha : w a = some x) : A a := by
  obtain ⟨L, hL, hP, hD⟩ := h
  obtain ⟨k, hk⟩ := va_pl_get (X := []) (L := L) (f := wd_f w) (wd_mem hL ha)
  exact hD.2 k _ hk
theorem wd_H.at {D : va_G} {cl : List vw_C} {A : Nat → Prop} {w : wd_M} {H : Heap} (h : wd_H D cl A w H) {a : Nat} {x : va_E} (ha : w a = some x) : va_at D cl (a, x) H := by
  obtain ⟨L, hL, hP, hD⟩ := h
  obtain ⟨k, hk⟩ := va_pl_get (X := []) (L := L) (f := wd_f w) (wd_mem hL ha)
  rw [wd_fa ha] at hk
  exact hP k _ hk
theorem wd_H.lt {D : va_G} {cl : List vw_C} {A : Nat → Prop} {w : wd_M} {H : Heap} (h : wd_H D cl A w H) {a : Nat} {x : va_E} (ha : w a = some x) : a < H.size := (h.at ha).lt
theorem wd_sub {A0 : Nat → Prop} {D : va_G} {cl : List vw_C} {w : wd_M} {H0 H : Heap} {locs : List Loc} (hW : wd_W D cl A0 w H0 H locs) : ∀ q, wd_A w H.size q → A0 q := by
  intro q hq
  rcases hq with hq | hq
  · cases hw : w q with
    | none => exact absurd hw hq
    | some x => exact hW.1.inA hw
  · exact hW.2.2 q (Nat.le_trans hW.2.1.1 hq)
theorem wd_keep {w w1 : wd_M} {a b : Nat} {x y : Option va_E} (h : w1 = va_up w a x) (n : b ≠ a) (hb : w b = y) : w1 b = y := by rw [h, va_up_ne _ _ n]; exact hb
theorem wd_here {w w1 : wd_M} {a : Nat} {x : Option va_E} (h : w1 = va_up w a x) : w1 a = x := by rw [h]; exact va_up_self _ _ _
theorem wd_ne {w : wd_M} {a b : Nat} {x y : va_E} (ha : w a = some x) (hb : w b = some y) (h : x ≠ y) : a ≠ b := fun e1 => h (by rw [e1, hb] at ha; exact (Option.some.inj ha).symm)
theorem wd_neN {w : wd_M} {a q : Nat} {x : va_E} (ha : w a = some x) (hq : w q = none) : a ≠ q := fun e1 => by rw [e1, hq] at ha; cases ha
section WDI
variable {p : Program} {l : Launch} {e : Env} {R : Room} {s : State} {m : MethodId} {args : Array Value} {below : List Frame} {meth : Method} {c : Code} {H : Heap} {locs : List Loc} {cells slots : Nat} {Q : State → Prop}
variable {cc : ByteArray} {pc nL : Nat} {ls : Array Slot} {rest : List Value} {D : va_G} {cl : List vw_C} {A : Nat → Prop} {a : Nat} {tys : List (ClassId × FieldType)} {w : wd_M} {H0 : Heap} {Ts : List Cond} {own : String}
/-- the world behind a write into a cell of it -/
theorem wd_set {H1 : Heap} {locs1 : List Loc} {L : List Nat} {k : Nat} {x y : va_E} (hL : wd_L w L) (hD : va_D A ([] ++ va_pl L (wd_f w))) (hA : ∀ q : Nat, H0.size ≤ q → A q) (he : w a = some x) (hk : ([] ++ va_pl L (wd_f w))[k]? = some (a, wd_f w a)) (hP1 : va_P D cl (([] ++ va_pl L (wd_f w)).set k (a, y)) H1) (hD1 : va_D A (([] ++ va_pl L (wd_f w)).set k (a, y))) (hS1 : va_S A H0 H1 locs1) : wd_W D cl A (va_up w a (some y)) H0 H1 locs1 := by
  rw [va_pl_set hD (wd_mem hL he) hk, ← wd_upf] at hP1 hD1
  exact ⟨⟨L, wd_upL hL he, hP1, hD1⟩, hS1, hA⟩
/-- the world behind a new cell -/
theorem wd_push {H1 : Heap} {L : List Nat} {q : Nat} {y : va_E} (hL : wd_L w L) (hA : ∀ q : Nat, H0.size ≤ q → A q) (hP1 : va_P D cl (([] ++ va_pl L (wd_f w)) ++ [(q, y)]) H1) (hD1 : va_D A (([] ++ va_pl L (wd_f w)) ++ [(q, y)])) (hS1 : va_S A H0 H1 locs) : w q = none ∧ wd_W D cl A (va_up w q (some y)) H0 H1 locs := by
  have hq : q ∉ L := va_pl_fresh2 hD1
  have hn : w q = none := by
    cases hw : w q with
    | none => rfl
    | some x => exact absurd (wd_mem hL hw) hq
  have e1 : ([] ++ va_pl L (wd_f w)) ++ [(q, y)] = [] ++ va_pl (L ++ [q]) (wd_f (va_up w q (some y))) := by
    rw [wd_upf]
    exact va_pl_push hq
  rw [e1] at hP1 hD1
  exact ⟨hn, ⟨L ++ [q], wd_newL hL, hP1, hD1⟩, hS1, hA⟩
theorem wd_get (S : CallFix p m c cc nL s args Ts own) {ref C : String} {T : u_T} {N ci index : Nat} (hin : ∀ x ∈ u_ws C T N, x ∈ Ts) (hK : va_K D cl tys s) (hW : wd_W D cl A w H0 H locs) {fs : List Value} (he : w a = some (.inr (ci, fs))) (hc : cl[ci]? = some (C, T, N)) (k : Nat) (hk : k < N) (hlink : Cond.fieldLink own index ref (T k).2.1 (T k).2.2.1 ∈ Ts) (href : (T k).1 = ref) {v : Value} (hv : fs[k]? = some v) (hdg : decode cc pc = .ok (.getfield index, 3))
    (kk : W p l e R s m args below meth c H locs cells slots Q (F0 m (pc + 3) ls (v :: rest))) : W p l e R s m args below meth c H locs cells slots Q (F0 m pc ls (.ref a :: rest)) := by
  obtain ⟨hx, hb, hml, hown, hts⟩ := S
  obtain ⟨⟨L, hL, hP, hD⟩, hS, hA⟩ := hW
  obtain ⟨j, hj⟩ := va_pl_get (X := []) (L := L) (f := wd_f w) (wd_mem hL he)
  rw [wd_fa he] at hj
  subst href
  exact va_get hx hb hts hin hown hK hP j hj hc k hk (hts _ hlink) (fun _ h => h) hv hdg kk
theorem wd_put (S : CallFix p m c cc nL s args Ts own) {ref C : String} {T : u_T} {N ci index : Nat} (hin : ∀ x ∈ u_ws C T N, x ∈ Ts) (ty0 : Nat → FieldType) (hty : ∀ k, k < N → parseFieldDescriptor (T k).2.2.1 = some (ty0 k)) (hnm : ∀ a, a < N → ∀ b, b < N → a ≠ b → (T a).2.1 ≠ (T b).2.1) (hK : va_K D cl tys s) (hW : wd_W D cl A w H0 H locs) {fs : List Value} (he : w a = some (.inr (ci, fs))) (hc : cl[ci]? = some (C, T, N)) (k : Nat) (hk : k < N) (hlink : Cond.fieldLink own index ref (T k).2.1 (T k).2.2.1 ∈ Ts) (href : (T k).1 = ref) (hfin : (T k).2.2.2 = false) {v : Value} (hn : narrow (ty0 k) v = v) (hfit : fits (ty0 k) v = true) (hl : k < fs.length)
    (hdg : decode cc pc = .ok (.putfield index, 3)) (kk : ∀ (H1 : Heap) (locs1 : List Loc), ∀ w1 : wd_M, w1 = va_up w a (some (.inr (ci, fs.set k v))) → wd_W D cl A w1 H0 H1 locs1 → W p l e R s m args below meth c H1 locs1 cells slots Q (F0 m (pc + 3) ls rest)) : W p l e R s m args below meth c H locs cells slots Q (F0 m pc ls (v :: .ref a :: rest)) := by
  obtain ⟨hx, hb, hml, hown, hts⟩ := S
  obtain ⟨⟨L, hL, hP, hD⟩, hS, hA⟩ := hW
  obtain ⟨j, hj⟩ := va_pl_get (X := []) (L := L) (f := wd_f w) (wd_mem hL he)
  have hj2 := hj
  rw [wd_fa he] at hj
  subst href
  exact va_put hx hb hts hin ty0 hty hnm hown hK hP hD hS j hj hc k hk (hts _ hlink) (fun _ h => h) hfin (hty k hk) hn hfit hl hdg (fun H1 locs1 hP1 hD1 hS1 => kk H1 locs1 _ rfl (wd_set hL hD hA he hj2 hP1 hD1 hS1))
/-- a final field, in its own constructor -/
theorem wd_putF (S : CallFix p m c cc nL s args Ts own) {ref C : String} {T : u_T} {N ci index : Nat} (hin : ∀ x ∈ u_ws C T N, x ∈ Ts) (ty0 : Nat → FieldType) (hty : ∀ k, k < N → parseFieldDescriptor (T k).2.2.1 = some (ty0 k)) (hnm : ∀ a, a < N → ∀ b, b < N → a ≠ b → (T a).2.1 ≠ (T b).2.1) (hK : va_K D cl tys s) (hW : wd_W D cl A w H0 H locs) {fs : List Value} (he : w a = some (.inr (ci, fs))) (hc : cl[ci]? = some (C, T, N)) (k : Nat) (hk : k < N) (hlink : Cond.fieldLink own index ref (T k).2.1 (T k).2.2.1 ∈ Ts) (href : (T k).1 = ref) (hfin : (T k).2.2.2 = true) (hin2 : meth.name = "<init>") (hdecl : (T k).1 = own) {v : Value} (hn : narrow (ty0 k) v = v) (hfit : fits (ty0 k) v = true) (hl : k < fs.length)
    (hdg : decode cc pc = .ok (.putfield index, 3)) (kk : ∀ (H1 : Heap) (locs1 : List Loc), ∀ w1 : wd_M, w1 = va_up w a (some (.inr (ci, fs.set k v))) → wd_W D cl A w1 H0 H1 locs1 → W p l e R s m args below meth c H1 locs1 cells slots Q (F0 m (pc + 3) ls rest)) : W p l e R s m args below meth c H locs cells slots Q (F0 m pc ls (v :: .ref a :: rest)) := by
  obtain ⟨hx, hb, hml, hown, hts⟩ := S
  obtain ⟨⟨L, hL, hP, hD⟩, hS, hA⟩ := hW
  obtain ⟨j, hj⟩ := va_pl_get (X := []) (L := L) (f := wd_f w) (wd_mem hL he)
  have hj2 := hj
  rw [wd_fa he] at hj
  subst href
  exact va_putF hx hb hts hin ty0 hty hnm hown hK hP hD hS j hj hc k hk (hts _ hlink) (fun _ h => h) hfin hin2 hdecl (hty k hk) hn hfit hl hdg (fun H1 locs1 hP1 hD1 hS1 => kk H1 locs1 _ rfl (wd_set hL hD hA he hj2 hP1 hD1 hS1))
theorem wd_iald (S : CallFix p m c cc nL s args Ts own) (hK : va_K D cl tys s) (hW : wd_W D cl A w H0 H locs) (t0 : Nat) {cA : ClassId} {n : Nat} {f : Nat → Int32} (ha : w a = some (.inl (cA, n, .inl f))) (ht : tys[t0]? = some (cA, .int)) {i : Int32} (hin : vp_in i n) (hdg : decode cc pc = .ok (.iaload, 1))
    (kk : W p l e R s m args below meth c H locs cells slots Q (F0 m (pc + 1) ls (.int (f i.toNatClampNeg) :: rest))) : W p l e R s m args below meth c H locs cells slots Q (F0 m pc ls (.int i :: .ref a :: rest)) := by
  obtain ⟨hx, hb, hml, hown, hts⟩ := S
  obtain ⟨⟨L, hL, hP, hD⟩, hS, hA⟩ := hW
  obtain ⟨j, hj⟩ := va_pl_get (X := []) (L := L) (f := wd_f w) (wd_mem hL ha)
  rw [wd_fa ha] at hj
  exact va_iald hx hb hK hP j t0 hj ht hin hdg kk
theorem wd_zald (S : CallFix p m c cc nL s args Ts own) (hK : va_K D cl tys s) (hW : wd_W D cl A w H0 H locs) (t0 : Nat) {cA : ClassId} {n : Nat} {f : Nat → Int32} (ha : w a = some (.inl (cA, n, .inl f))) (ht : tys[t0]? = some (cA, .boolean)) {i : Int32} (hin : vp_in i n) (hdg : decode cc pc = .ok (.baload, 1))
    (kk : W p l e R s m args below meth c H locs cells slots Q (F0 m (pc + 1) ls (.int (f i.toNatClampNeg) :: rest))) : W p l e R s m args below meth c H locs cells slots Q (F0 m pc ls (.int i :: .ref a :: rest)) := by
  obtain ⟨hx, hb, hml, hown, hts⟩ := S
  obtain ⟨⟨L, hL, hP, hD⟩, hS, hA⟩ := hW
  obtain ⟨j, hj⟩ := va_pl_get (X := []) (L := L) (f := wd_f w) (wd_mem hL ha)
  rw [wd_fa ha] at hj
  exact va_zald hx hb hK hP j t0 hj ht hin hdg kk
theorem wd_aald (S : CallFix p m c cc nL s args Ts own) (hK : va_K D cl tys s) (hW : wd_W D cl A w H0 H locs) (t0 : Nat) {cA : ClassId} {C : String} {n : Nat} {f : Nat → Option Nat} (ha : w a = some (.inl (cA, n, .inr (.inr (.inr (.inr f)))))) (ht : tys[t0]? = some (cA, .object C)) {i : Int32} (hin : vp_in i n) (hdg : decode cc pc = .ok (.aaload, 1))
    (kk : W p l e R s m args below meth c H locs cells slots Q (F0 m (pc + 1) ls (va_rf (f i.toNatClampNeg) :: rest))) : W p l e R s m args below meth c H locs cells slots Q (F0 m pc ls (.int i :: .ref a :: rest)) := by
  obtain ⟨hx, hb, hml, hown, hts⟩ := S
  obtain ⟨⟨L, hL, hP, hD⟩, hS, hA⟩ := hW
  obtain ⟨j, hj⟩ := va_pl_get (X := []) (L := L) (f := wd_f w) (wd_mem hL ha)
  rw [wd_fa ha] at hj
  exact va_aldq hx hb hK hP j t0 hj ht hin hdg kk
theorem wd_alen (S : CallFix p m c cc nL s args Ts own) (hK : va_K D cl tys s) (hW : wd_W D cl A w H0 H locs) (t0 : Nat) {cA : ClassId} {x : vp_A} (ha : w a = some (.inl (cA, x))) {ty : FieldType} (ht : tys[t0]? = some (cA, ty)) (hdg : decode cc pc = .ok (.arraylength, 1))
    (kk : W p l e R s m args below meth c H locs cells slots Q (F0 m (pc + 1) ls (.int (nI x.1) :: rest))) : W p l e R s m args below meth c H locs cells slots Q (F0 m pc ls (.ref a :: rest)) := by
  obtain ⟨hx, hb, hml, hown, hts⟩ := S
  obtain ⟨⟨L, hL, hP, hD⟩, hS, hA⟩ := hW
  obtain ⟨j, hj⟩ := va_pl_get (X := []) (L := L) (f := wd_f w) (wd_mem hL ha)
  rw [wd_fa ha] at hj
  exact va_alen hx hb hK hP j t0 hj ht rfl hdg kk
theorem wd_iast (S : CallFix p m c cc nL s args Ts own) (hK : va_K D cl tys s) (hW : wd_W D cl A w H0 H locs) (t0 : Nat) {cA : ClassId} {n : Nat} {f : Nat → Int32} (ha : w a = some (.inl (cA, n, .inl f))) (ht : tys[t0]? = some (cA, .int)) {i x : Int32} (hin : vp_in i n) (hdg : decode cc pc = .ok (.iastore, 1))
    (kk : ∀ (H1 : Heap) (locs1 : List Loc), ∀ w1 : wd_M, w1 = va_up w a (some (.inl (cA, n, .inl (upd f i.toNatClampNeg x)))) → wd_W D cl A w1 H0 H1 locs1 → W p l e R s m args below meth c H1 locs1 cells slots Q (F0 m (pc + 1) ls rest)) : W p l e R s m args below meth c H locs cells slots Q (F0 m pc ls (.int x :: .int i :: .ref a :: rest)) := by
  obtain ⟨hx, hb, hml, hown, hts⟩ := S
  obtain ⟨⟨L, hL, hP, hD⟩, hS, hA⟩ := hW
  obtain ⟨j, hj⟩ := va_pl_get (X := []) (L := L) (f := wd_f w) (wd_mem hL ha)
  have hj2 := hj
  rw [wd_fa ha] at hj
  exact va_iast hx hb hK hP hD hS j t0 hj ht hin hdg (fun H1 locs1 hP1 hD1 hS1 => kk H1 locs1 _ rfl (wd_set hL hD hA ha hj2 hP1 hD1 hS1))
theorem wd_zast (S : CallFix p m c cc nL s args Ts own) (hK : va_K D cl tys s) (hW : wd_W D cl A w H0 H locs) (t0 : Nat) {cA : ClassId} {n : Nat} {f : Nat → Int32} (ha : w a = some (.inl (cA, n, .inl f))) (ht : tys[t0]? = some (cA, .boolean)) {i x : Int32} (hin : vp_in i n) (hdg : decode cc pc = .ok (.bastore, 1))
    (kk : ∀ (H1 : Heap) (locs1 : List Loc), ∀ w1 : wd_M, w1 = va_up w a (some (.inl (cA, n, .inl (upd f i.toNatClampNeg (vp_nar .boolean x))))) → wd_W D cl A w1 H0 H1 locs1 → W p l e R s m args below meth c H1 locs1 cells slots Q (F0 m (pc + 1) ls rest)) : W p l e R s m args below meth c H locs cells slots Q (F0 m pc ls (.int x :: .int i :: .ref a :: rest)) := by
  obtain ⟨hx, hb, hml, hown, hts⟩ := S
  obtain ⟨⟨L, hL, hP, hD⟩, hS, hA⟩ := hW
  obtain ⟨j, hj⟩ := va_pl_get (X := []) (L := L) (f := wd_f w) (wd_mem hL ha)
  have hj2 := hj
  rw [wd_fa ha] at hj
  exact va_zast hx hb hK hP hD hS j t0 hj ht hin hdg (fun H1 locs1 hP1 hD1 hS1 => kk H1 locs1 _ rfl (wd_set hL hD hA ha hj2 hP1 hD1 hS1))
/-- an object of a known class goes into an array of a wider type -/
theorem wd_aast (S : CallFix p m c cc nL s args Ts own) (hK : va_K D cl tys s) (hW : wd_W D cl A w H0 H locs) (t0 ci : Nat) {E : String} {cA : ClassId} {r : vw_C} {n v : Nat} {vs : List Value} {f : Nat → Option Nat} (ha : w a = some (.inl (cA, n, .inr (.inr (.inr (.inr f)))))) (ht : tys[t0]? = some (cA, .object E)) (hca : va_Nw (.castable r.1 E) s) (hv : w v = some (.inr (ci, vs))) (hc : cl[ci]? = some r) {i : Int32} (hin : vp_in i n) (hdg : decode cc pc = .ok (.aastore, 1))
    (kk : ∀ (H1 : Heap) (locs1 : List Loc), ∀ w1 : wd_M, w1 = va_up w a (some (.inl (cA, n, .inr (.inr (.inr (.inr (va_up f i.toNatClampNeg (some v))))))))  → wd_W D cl A w1 H0 H1 locs1 → W p l e R s m args below meth c H1 locs1 cells slots Q (F0 m (pc + 1) ls rest)) : W p l e R s m args below meth c H locs cells slots Q (F0 m pc ls (.ref v :: .int i :: .ref a :: rest)) := by
  obtain ⟨hx, hb, hml, hown, hts⟩ := S
  obtain ⟨⟨L, hL, hP, hD⟩, hS, hA⟩ := hW
  obtain ⟨j, hj⟩ := va_pl_get (X := []) (L := L) (f := wd_f w) (wd_mem hL ha)
  obtain ⟨j1, hj1⟩ := va_pl_get (X := []) (L := L) (f := wd_f w) (wd_mem hL hv)
  have hj2 := hj
  rw [wd_fa ha] at hj
  rw [wd_fa hv] at hj1
  exact va_astqO hx hb hK hP hD hS j t0 j1 ci hj ht hca hj1 hc hin hdg (fun H1 locs1 hP1 hD1 hS1 => kk H1 locs1 _ rfl (wd_set hL hD hA ha hj2 hP1 hD1 hS1))
theorem wd_aastN (S : CallFix p m c cc nL s args Ts own) (hK : va_K D cl tys s) (hW : wd_W D cl A w H0 H locs) (t0 : Nat) {cA : ClassId} {C : String} {n : Nat} {f : Nat → Option Nat} (ha : w a = some (.inl (cA, n, .inr (.inr (.inr (.inr f)))))) (ht : tys[t0]? = some (cA, .object C)) {i : Int32} (hin : vp_in i n) (hdg : decode cc pc = .ok (.aastore, 1))
    (kk : ∀ (H1 : Heap) (locs1 : List Loc), ∀ w1 : wd_M, w1 = va_up w a (some (.inl (cA, n, .inr (.inr (.inr (.inr (va_up f i.toNatClampNeg none))))))) → wd_W D cl A w1 H0 H1 locs1 → W p l e R s m args below meth c H1 locs1 cells slots Q (F0 m (pc + 1) ls rest)) : W p l e R s m args below meth c H locs cells slots Q (F0 m pc ls (.null :: .int i :: .ref a :: rest)) := by
  obtain ⟨hx, hb, hml, hown, hts⟩ := S
  obtain ⟨⟨L, hL, hP, hD⟩, hS, hA⟩ := hW
  obtain ⟨j, hj⟩ := va_pl_get (X := []) (L := L) (f := wd_f w) (wd_mem hL ha)
  have hj2 := hj
  rw [wd_fa ha] at hj
  exact va_astqN hx hb hK hP hD hS j t0 hj ht hin hdg (fun H1 locs1 hP1 hD1 hS1 => kk H1 locs1 _ rfl (wd_set hL hD hA ha hj2 hP1 hD1 hS1))
theorem wd_new (S : CallFix p m c cc nL s args Ts own) {C : String} {T : u_T} {N ci index : Nat} (hin : ∀ x ∈ u_ws C T N, x ∈ Ts) (ty : Nat → FieldType) (hty : ∀ k, k < N → parseFieldDescriptor (T k).2.2.1 = some (ty k)) (hcl : Cond.classLink own index C ∈ Ts) (hinst : Cond.instantiable C N ∈ Ts) (hini : Cond.initialized C ∈ Ts) (hK : va_K D cl tys s) (hW : wd_W D cl A w H0 H locs) (hc : cl[ci]? = some (C, T, N)) {fs : List Value} (hfs : ∀ j, j < N → defaultValue (ty j) = vp_V fs j) (hcells : cells + 1 ≤ R.cells) (hslots : slots + N ≤ R.slots) (hdg : decode cc pc = .ok (.new index, 3))
    (kk : ∀ (q : Nat) (H1 : Heap), w q = none → ∀ w1 : wd_M, w1 = va_up w q (some (.inr (ci, fs))) → wd_W D cl A w1 H0 H1 locs → W p l e R s m args below meth c H1 locs (cells + 1) (slots + N) Q (F0 m (pc + 3) ls (.ref q :: rest))) : W p l e R s m args below meth c H locs cells slots Q (F0 m pc ls rest) := by
  obtain ⟨hx, hb, hml, hown, hts⟩ := S
  obtain ⟨⟨L, hL, hP, hD⟩, hS, hA⟩ := hW
  refine va_new hx hb hts hin ty hty hown (hts _ hcl) (hts _ hinst) (hts _ hini) hK hP hD hS hA hc hfs hcells hslots hdg (fun q H1 hP1 hD1 hS1 => ?_)
  obtain ⟨hn, hW1⟩ := wd_push hL hA hP1 hD1 hS1
  exact kk q H1 hn _ rfl hW1
theorem wd_anyA {cA cB : ClassId} {ty : FieldType} (h1 : va_RA s cA ty) (h2 : va_RA s cB ty) : cA = cB := by
  cases ty with
  | object C =>
    obtain ⟨_, _, _, _, _, f1⟩ := h1
    obtain ⟨_, _, _, _, _, f2⟩ := h2
    exact Option.some.inj (f1.symm.trans f2)
  | _ => exact Option.some.inj ((show s.vm.findClass _ = some cA from h1).symm.trans (show s.vm.findClass _ = some cB from h2))
theorem wd_newa (S : CallFix p m c cc nL s args Ts own) {atype : ArrayType} (harr : Cond.arrayClass (newarray.typeOf atype) ∈ Ts) {ty : FieldType} (hty : newarray.typeOf atype = ty) (hK : va_K D cl tys s) (hW : wd_W D cl A w H0 H locs) (t0 : Nat) {cA : ClassId} (ht : tys[t0]? = some (cA, ty))
    {n : Int32} {N' : Nat} {a0 : vp_A} (ha : ∀ cA : ClassId, vp_cell cA a0 = arrV cA N' (fun _ => defaultValue ty)) (hn : ¬ n < 0) (hN : n.toNatClampNeg = N') (hbytes : N' * componentBytes ty ≤ 536870912) (hcells : cells + 1 ≤ R.cells) (hslots : slots + N' ≤ R.slots) (hdg : decode cc pc = .ok (.newarray atype, 2))
    (kk : ∀ (q : Nat) (H1 : Heap), w q = none → ∀ w1 : wd_M, w1 = va_up w q (some (.inl (cA, a0))) → wd_W D cl A w1 H0 H1 locs → W p l e R s m args below meth c H1 locs (cells + 1) (slots + N') Q (F0 m (pc + 2) ls (.ref q :: rest))) : W p l e R s m args below meth c H locs cells slots Q (F0 m pc ls (.int n :: rest)) := by
  obtain ⟨hx, hb, hml, hown, hts⟩ := S
  obtain ⟨⟨L, hL, hP, hD⟩, hS, hA⟩ := hW
  refine va_newa hx hb (hts _ harr) hty hK hP hD hS hA ha hn hN hbytes hcells hslots hdg (fun q cB H1 hK1 hP1 hD1 hS1 => ?_)
  have hB : va_RA s cB ty := (hK1.2 tys.length (cB, ty) (by rw [List.getElem?_append_right (Nat.le_refl _), Nat.sub_self]; rfl)).2
  have hAB : cA = cB := wd_anyA (hK.2 t0 _ ht).2 hB
  subst hAB
  obtain ⟨hn, hW1⟩ := wd_push hL hA hP1 hD1 hS1
  exact kk q H1 hn _ rfl hW1
theorem wd_newq (S : CallFix p m c cc nL s args Ts own) {C : String} {index : Nat} (hclink : Cond.classLink own index C ∈ Ts) (hover : va_AO C s) (hK : va_K D cl tys s) (hW : wd_W D cl A w H0 H locs) (t0 : Nat) {cA : ClassId} (ht : tys[t0]? = some (cA, .object C))
    {n : Int32} {N' : Nat} (hn : ¬ n < 0) (hN : n.toNatClampNeg = N') (hbytes : N' * 4 ≤ 536870912) (hcells : cells + 1 ≤ R.cells) (hslots : slots + N' ≤ R.slots) (hdg : decode cc pc = .ok (.anewarray index, 3))
    (kk : ∀ (q : Nat) (H1 : Heap), w q = none → ∀ w1 : wd_M, w1 = va_up w q (some (.inl (cA, N', .inr (.inr (.inr (.inr (fun _ => none))))))) → wd_W D cl A w1 H0 H1 locs → W p l e R s m args below meth c H1 locs (cells + 1) (slots + N') Q (F0 m (pc + 3) ls (.ref q :: rest))) : W p l e R s m args below meth c H locs cells slots Q (F0 m pc ls (.int n :: rest)) := by
  obtain ⟨hx, hb, hml, hown, hts⟩ := S
  obtain ⟨⟨L, hL, hP, hD⟩, hS, hA⟩ := hW
  refine va_newq hx hb hown (hts _ hclink) hover hK hP hD hS hA hn hN hbytes hcells hslots hdg (fun q cB H1 hK1 hP1 hD1 hS1 => ?_)
  have hB : va_RA s cB (.object C) := (hK1.2 tys.length (cB, .object C) (by rw [List.getElem?_append_right (Nat.le_refl _), Nat.sub_self]; rfl)).2
  have hAB : cA = cB := wd_anyA (hK.2 t0 _ ht).2 hB
  subst hAB
  obtain ⟨hn, hW1⟩ := wd_push hL hA hP1 hD1 hS1
  exact kk q H1 hn _ rfl hW1
/-- System.arraycopy of ints -/
theorem wd_copyi (S : CallFix p m c cc nL s args Ts own) (hsz : ls.size = nL) {index : Nat} (hlink : Cond.methodLink own index arraycopyName ∈ Ts) (hnat : Cond.native arraycopyName ∈ Ts) (hstat : Cond.static arraycopyName ∈ Ts) (hini : Cond.initialized "java/lang/System" ∈ Ts)
    (hK : va_K D cl tys s) (hW : wd_W D cl A w H0 H locs) (t0 : Nat) {a0 : Nat} {c0 : ClassId} {n0 n1 : Nat} {f g : Nat → Int32} (ha0 : w a0 = some (.inl (c0, n0, .inl f))) (ha1 : w a = some (.inl (c0, n1, .inl g))) (ht0 : tys[t0]? = some (c0, .int))
    {sp dp n : Int32} (h1 : ¬ sp < 0) (h2 : ¬ dp < 0) (h3 : ¬ n < 0) (h4 : sp.toNatClampNeg + n.toNatClampNeg ≤ n0) (h5 : dp.toNatClampNeg + n.toNatClampNeg ≤ n1)
    (hframes : 1 ≤ R.frames) (hlocals : (rest.map fun v => v.category).sum + (nativeFrameWords "java/lang/System" "arraycopy" 5 + 11) ≤ R.locals) (hdg : decode cc pc = .ok (.invokestatic index, 3))
    (kk : ∀ (H1 : Heap) (locs1 : List Loc), ∀ w1 : wd_M, w1 = va_up w a (some (.inl (c0, n1, .inl (va_cpy f g sp.toNatClampNeg dp.toNatClampNeg n.toNatClampNeg)))) → wd_W D cl A w1 H0 H1 locs1 → W p l e R s m args below meth c H1 locs1 cells slots Q (F0 m (pc + 3) ls rest)) : W p l e R s m args below meth c H locs cells slots Q (F0 m pc ls (.int n :: .int dp :: .ref a :: .int sp :: .ref a0 :: rest)) := by
  obtain ⟨hx, hb, hml, hown, hts⟩ := S
  obtain ⟨⟨L, hL, hP, hD⟩, hS, hA⟩ := hW
  obtain ⟨j0, hj0⟩ := va_pl_get (X := []) (L := L) (f := wd_f w) (wd_mem hL ha0)
  obtain ⟨j, hj⟩ := va_pl_get (X := []) (L := L) (f := wd_f w) (wd_mem hL ha1)
  have hj2 := hj
  rw [wd_fa ha1] at hj
  rw [wd_fa ha0] at hj0
  exact va_copyi hx hb (hml.trans hsz.symm) hown (hts _ hlink) (hts _ hnat) (hts _ hstat) (hts _ hini) hK hP hD hS j0 j t0 t0 hj0 hj ht0 ht0 rfl h1 h2 h3 h4 h5 (fun _ _ => rfl) hframes hlocals hdg (fun H1 locs1 hP1 hD1 hS1 => kk H1 locs1 _ rfl (wd_set hL hD hA ha1 hj2 hP1 hD1 hS1))
/-- System.arraycopy of references, all of them fit for the target's elements -/
theorem wd_copyM (S : CallFix p m c cc nL s args Ts own) (hsz : ls.size = nL) {index : Nat} (hlink : Cond.methodLink own index arraycopyName ∈ Ts) (hnat : Cond.native arraycopyName ∈ Ts) (hstat : Cond.static arraycopyName ∈ Ts) (hini : Cond.initialized "java/lang/System" ∈ Ts)
    (hK : va_K D cl tys s) (hW : wd_W D cl A w H0 H locs) (t0 : Nat) {a0 : Nat} {c0 : ClassId} {n0 n1 : Nat} {f g : Nat → Option Nat} {E : String} (ha0 : w a0 = some (.inl (c0, n0, .inr (.inr (.inr (.inr f)))))) (ha1 : w a = some (.inl (c0, n1, .inr (.inr (.inr (.inr g)))))) (ht0 : tys[t0]? = some (c0, .object E))
    {sp dp n : Int32} (h1 : ¬ sp < 0) (h2 : ¬ dp < 0) (h3 : ¬ n < 0) (h4 : sp.toNatClampNeg + n.toNatClampNeg ≤ n0) (h5 : dp.toNatClampNeg + n.toNatClampNeg ≤ n1) (hel : ∀ i : Nat, i < n.toNatClampNeg → ∀ y : Nat, f (sp.toNatClampNeg + i) = some y → ∃ (ci : Nat) (fs : List Value) (r : vw_C), w y = some (.inr (ci, fs)) ∧ cl[ci]? = some r ∧ va_Nw (.castable r.1 E) s)
    (hframes : 1 ≤ R.frames) (hlocals : (rest.map fun v => v.category).sum + (nativeFrameWords "java/lang/System" "arraycopy" 5 + 11) ≤ R.locals) (hdg : decode cc pc = .ok (.invokestatic index, 3))
    (kk : ∀ (H1 : Heap) (locs1 : List Loc), ∀ w1 : wd_M, w1 = va_up w a (some (.inl (c0, n1, .inr (.inr (.inr (.inr (va_cpy f g sp.toNatClampNeg dp.toNatClampNeg n.toNatClampNeg))))))) → wd_W D cl A w1 H0 H1 locs1 → W p l e R s m args below meth c H1 locs1 cells slots Q (F0 m (pc + 3) ls rest)) : W p l e R s m args below meth c H locs cells slots Q (F0 m pc ls (.int n :: .int dp :: .ref a :: .int sp :: .ref a0 :: rest)) := by
  obtain ⟨hx, hb, hml, hown, hts⟩ := S
  obtain ⟨⟨L, hL, hP, hD⟩, hS, hA⟩ := hW
  obtain ⟨j0, hj0⟩ := va_pl_get (X := []) (L := L) (f := wd_f w) (wd_mem hL ha0)
  obtain ⟨j, hj⟩ := va_pl_get (X := []) (L := L) (f := wd_f w) (wd_mem hL ha1)
  have hj2 := hj
  rw [wd_fa ha1] at hj
  rw [wd_fa ha0] at hj0
  refine va_copyM hx hb (hml.trans hsz.symm) hown (hts _ hlink) (hts _ hnat) (hts _ hstat) (hts _ hini) hK hP hD hS j0 j t0 t0 hj0 hj ht0 ht0 h1 h2 h3 h4 h5 (fun i hi y hy => ?_) hframes hlocals hdg (fun H1 locs1 hP1 hD1 hS1 => kk H1 locs1 _ rfl (wd_set hL hD hA ha1 hj2 hP1 hD1 hS1))
  obtain ⟨ci, fs, r, e1, e2, e3⟩ := hel i hi y hy
  obtain ⟨k1, hk1⟩ := va_pl_get (X := []) (L := L) (f := wd_f w) (wd_mem hL e1)
  rw [wd_fa e1] at hk1
  refine va_rAny hK hP hk1 e2 (fun comp c1 g1 g2 => ?_)
  obtain ⟨c2, t1, f1, f2, f3⟩ := Cond.castable_spec (va_Nw.use (A := args) rfl e3)
  cases g2.symm.trans f1
  cases g1.symm.trans f2
  exact f3
end WDI
end
section
/-! THE ENVIRONMENT: class numbers, array classes, ArrayList's empty array, the class object of Object[]. G.1: classes and slots; G.2.1: array classes (0 int, 1 boolean, 2 Object); G.2.2: addresses (0 the empty array, 1 the class object). -/
abbrev ev_G : Type := va_G × (Nat → ClassId) × (Nat → Nat)
abbrev ev_tys (G : ev_G) : List (ClassId × FieldType) := [(G.2.1 0, .int), (G.2.1 1, .boolean), (G.2.1 2, .object "java/lang/Object")]
abbrev ev_nest : Cond := .methodLinkNest "HyphenRows" 60 y_La_init "HyphenRows"
/-- ArrayList's own empty array: the static holds it, it has no place -/
def ev_Z (G : ev_G) (A : Nat → Prop) (U : State) (H : Heap) : Prop := va_Z "java/util/ArrayList" "DEFAULTCAPACITY_EMPTY_ELEMENTDATA" "[Ljava/lang/Object;" (.ref (G.2.2 0)) A U H ∧ va_T (.object "java/lang/Object") (G.2.2 0) 0 (fun _ => .null) A U H ∧ va_O "[Ljava/lang/Object;" (G.2.2 0) A U H
def ev_N (G : ev_G) (U : State) : Prop := va_Nw ev_nest U ∧ (∀ C : String, C ∈ [R_La, R_Pa, R_To] → va_Nw (.castable C "java/lang/Object") U ∧ va_Nw (.castable C C) U) ∧ va_Nw (.castable "[I" "java/lang/Cloneable") U ∧ va_AO "java/lang/Object" U ∧ va_Mi "[Ljava/lang/Object;" (G.2.2 1) U ∧ va_Dc U
def ev_K (G : ev_G) (A : Nat → Prop) (U : State) (H : Heap) : Prop := va_K G.1 ev_cl (ev_tys G) U ∧ ev_N G U ∧ ev_Z G A U H
theorem ev_moved {G : ev_G} {A : Nat → Prop} {s U : State} {H : Heap} (hW : s.WarmedH U.vm) (h : ev_K G A s H) : ev_K G A U H := by
  obtain ⟨h1, ⟨n1, n2, n3, n4, n5, n6⟩, z1, z2, z3⟩ := h
  exact ⟨va_K.moved hW.alike h1, ⟨va_Nw.warmM hW n1, fun C hC => ⟨va_Nw.warmC hW (n2 C hC).1, va_Nw.warmC hW (n2 C hC).2⟩, va_Nw.warmC hW n3, va_AO.moved hW.alike n4, va_Mi.moved hW.alike n5, va_Dc.moved hW.alike n6⟩, va_Z.moved hW.alike z1, va_T.moved hW.alike z2, va_O.moved hW.alike z3⟩
theorem ev_same {G : ev_G} {A : Nat → Prop} {s U : State} {H : Heap} (hv : s.vm = U.vm) (h : ev_K G A s H) : ev_K G A U H := by
  have ha : s.vm.Alike U.vm := by rw [hv]; exact Vm.Alike.refl U.vm
  obtain ⟨h1, ⟨n1, n2, n3, n4, n5, n6⟩, z1, z2, z3⟩ := h
  exact ⟨va_K.moved ha h1, ⟨va_Nw.same rfl hv n1, fun C hC => ⟨va_Nw.same rfl hv (n2 C hC).1, va_Nw.same rfl hv (n2 C hC).2⟩, va_Nw.same rfl hv n3, va_AO.moved ha n4, va_Mi.moved ha n5, va_Dc.moved ha n6⟩, va_Z.moved ha z1, va_T.moved ha z2, va_O.moved ha z3⟩
theorem ev_kept {G : ev_G} {A : Nat → Prop} {U : State} {H H1 : Heap} (h : ev_K G A U H) (hq : ∀ a : Nat, a < H.size → ¬ A a → H1[a]? = H[a]?) : ev_K G A U H1 :=
  ⟨h.1, h.2.1, h.2.2.1.kept hq, h.2.2.2.1.kept hq, h.2.2.2.2.kept hq⟩
theorem ev_narrow {G : ev_G} {A B : Nat → Prop} {U : State} {H : Heap} (h : ev_K G A U H) (hAB : ∀ q, B q → A q) : ev_K G B U H :=
  ⟨h.1, h.2.1, h.2.2.1.narrow hAB, h.2.2.2.1.narrow hAB, h.2.2.2.2.narrow hAB⟩
end
section
/-! CONTRACTS OVER MAPS: entry, returns, calls. The words are lw_good everywhere. -/
/-- what a method finds: the world w, and the tables and statics of the start -/
def ct_Pre (G : ev_G) (w : wd_M) (sz : Nat) (U : State) : Prop := U.heap.size = sz ∧ ev_K G (wd_A w sz) U U.heap ∧ wd_H G.1 ev_cl (wd_A w sz) w U.heap
def ct_Post (G : ev_G) (w : wd_M) (sz : Nat) (u : wd_M) (t : State) : Prop := wd_H G.1 ev_cl (wd_A w sz) u t.heap
def ct_i (l : Launch) (y : MethodName) (b : ByteArray) (nl : Nat) (rt : Option FieldType) (rm : Room) (G : ev_G) (w : wd_M) (sz : Nat) (av : List Value) (post : Int32 → wd_M → Prop) : Prop :=
  Met l y (Cond.code y b nl rt :: lw_good) rm (va_Pc av (ct_Pre G w sz)) (va_Qi post (ct_Post G w sz) (wd_A w sz)) rm.cells rm.slots (wd_A w sz)
def ct_v (l : Launch) (y : MethodName) (b : ByteArray) (nl : Nat) (rt : Option FieldType) (rm : Room) (G : ev_G) (w : wd_M) (sz : Nat) (av : List Value) (post : wd_M → Prop) : Prop :=
  Met l y (Cond.code y b nl rt :: lw_good) rm (va_Pc av (ct_Pre G w sz)) (va_Qv post (ct_Post G w sz) (wd_A w sz)) rm.cells rm.slots (wd_A w sz)
def ct_q (l : Launch) (y : MethodName) (b : ByteArray) (nl : Nat) (rt : Option FieldType) (rm : Room) (G : ev_G) (w : wd_M) (sz : Nat) (av : List Value) (post : Option Nat → wd_M → Prop) : Prop :=
  Met l y (Cond.code y b nl rt :: lw_good) rm (va_Pc av (ct_Pre G w sz)) (va_Qq post (ct_Post G w sz) (wd_A w sz)) rm.cells rm.slots (wd_A w sz)
theorem ct_blind {G : ev_G} {w : wd_M} {sz : Nat} {av : List Value} : FrameBlind (va_Pc av (ct_Pre G w sz)) := by
  intro a U g mk q
  obtain ⟨q0, q1, q2, q3⟩ := q
  exact ⟨q0, q1, ev_same rfl q2, q3⟩
/-- a body's start -/
theorem ct_enter {l : Launch} {y : MethodName} {b : ByteArray} {nl : Nat} {rt : Option FieldType} {rm : Room} {G : ev_G} {w : wd_M} {sz : Nat} {av : List Value} {Qc : Array Value → State → Outcome → State → Prop} (hy : plainFor y = true) (hn : (lg_sl av).length ≤ nl)
    (body : ∀ (p : Program) (e : Env) (s : State) (m : MethodId) (below : List Frame) (meth : Method) (c : Code), s.heap.size = sz → CallFix p m c b nl s av.toArray lw_good y.cls → meth.sig.returnType = rt → meth.locks = false → meth.name = y.name → ev_K G (wd_A w sz) s s.heap → wd_W G.1 ev_cl (wd_A w sz) w s.heap s.heap [] → ∀ ls : Array Slot, lv_has ls nl (lv_args 0 av) → W p l e rm s m av.toArray below meth c s.heap [] 0 0 (MQ below Qc av.toArray s rm.cells rm.slots (wd_A w sz)) (F0 m 0 ls [])) :
    Met l y (Cond.code y b nl rt :: lw_good) rm (va_Pc av (ct_Pre G w sz)) Qc rm.cells rm.slots (wd_A w sz) := by
  refine va_MetF (cc := b) (maxL := nl) (ret := rt) hy rfl ?_
  intro p e s m args below meth c s₁ B hml hv
  obtain ⟨rfl, hsz, hE, hH⟩ := hv
  have hts := atoms_spec (ws := Cond.code y b nl rt :: lw_good) B.pre
  have hl := lv_entry av (n := nl) hn
  rw [lg_entry_eq]
  exact body p e s m below meth c hsz ⟨B.exec, B.bytes, hml, findClass_of_methodNamed B.named, fun x hx => hts x (List.mem_cons_of_mem _ hx)⟩ B.returns B.notSynchronized (name_of_methodNamed B.named B.method).1 hE ⟨hH, va_S.rf, fun q h => Or.inr (by rw [← hsz]; exact h)⟩ _ hl
section CTR
variable {p : Program} {l : Launch} {e : Env} {R : Room} {s : State} {m : MethodId} {args : Array Value} {below : List Frame} {meth : Method} {c : Code} {H : Heap} {locs : List Loc} {cells slots : Nat} {Q : State → Prop}
variable {cc : ByteArray} {pc nL : Nat} {ls : Array Slot} {rest st0 : List Value} {G : ev_G} {A : Nat → Prop} {w u : wd_M} {Ts : List Cond} {own : String} {sz mc ms : Nat}
theorem ct_iret {post : Int32 → wd_M → Prop} {v : Int32} {ty : FieldType} (S : CallFix p m c cc nL s args Ts own) (hr : meth.sig.returnType = some ty) (hn : narrow ty (.int v) = .int v) (hlocks : meth.locks = false) (hW : wd_W G.1 ev_cl (wd_A w sz) u s.heap H locs) (hp : post v u) (h1 : cells ≤ mc) (h2 : slots ≤ ms) (hdg : decode cc pc = .ok (.ireturn, 1)) :
    W p l e R s m args below meth c H locs cells slots (MQ below (va_Qi post (ct_Post G w sz) (wd_A w sz)) args s mc ms (wd_A w sz)) (F0 m pc ls [.int v]) := by
  obtain ⟨hx, hb, -⟩ := S
  refine W.widen h1 h2 ?_
  exact W.zret hx hb hr hn (fun t ht _ => ⟨⟨v, u, rfl, hp, by show wd_H _ _ _ _ t.heap; rw [ht]; exact hW.1⟩, hW.2.1.F ht⟩) hW.2.1.2.2 hdg hlocks
theorem ct_vret {post : wd_M → Prop} (S : CallFix p m c cc nL s args Ts own) (hr : meth.sig.returnType = none) (hlocks : meth.locks = false) (hW : wd_W G.1 ev_cl (wd_A w sz) u s.heap H locs) (hp : post u) (h1 : cells ≤ mc) (h2 : slots ≤ ms) (hdg : decode cc pc = .ok (.return_, 1)) :
    W p l e R s m args below meth c H locs cells slots (MQ below (va_Qv post (ct_Post G w sz) (wd_A w sz)) args s mc ms (wd_A w sz)) (F0 m pc ls []) := by
  obtain ⟨hx, hb, -⟩ := S
  refine W.widen h1 h2 ?_
  exact W.vret hx hb hr (fun t ht _ => ⟨⟨u, rfl, hp, by show wd_H _ _ _ _ t.heap; rw [ht]; exact hW.1⟩, hW.2.1.F ht⟩) hW.2.1.2.2 hdg hlocks
theorem ct_qret {post : Option Nat → wd_M → Prop} {r : Option Nat} {rt : FieldType} (S : CallFix p m c cc nL s args Ts own) (hr : meth.sig.returnType = some rt) (hrt : (∃ n, rt = .object n) ∨ ∃ t, rt = .array t) (hlocks : meth.locks = false) (hW : wd_W G.1 ev_cl (wd_A w sz) u s.heap H locs) (hp : post r u) (h1 : cells ≤ mc) (h2 : slots ≤ ms) (hdg : decode cc pc = .ok (.areturn, 1)) :
    W p l e R s m args below meth c H locs cells slots (MQ below (va_Qq post (ct_Post G w sz) (wd_A w sz)) args s mc ms (wd_A w sz)) (F0 m pc ls [va_rf r]) := by
  obtain ⟨hx, hb, -⟩ := S
  refine W.widen h1 h2 ?_
  exact W.aret hx hb hr hrt (va_rf_or r) (fun t ht _ => ⟨⟨r, u, rfl, hp, by show wd_H _ _ _ _ t.heap; rw [ht]; exact hW.1⟩, hW.2.1.F ht⟩) hW.2.1.2.2 hdg hlocks
/-- what a callee finds of the start -/
theorem ct_env (hE : ev_K G A s s.heap) (hW : wd_W G.1 ev_cl A w s.heap H locs) {U : State} (hU : U.heap = H) (hw : s.WarmedH U.vm) : ct_Pre G w H.size U := by
  refine ⟨by rw [hU], ?_, by rw [hU]; exact hW.1.self _⟩
  rw [hU]
  exact ev_moved hw (ev_narrow (ev_kept hE hW.2.1.2.1) (wd_sub hW))
theorem ct_good {y : MethodName} {b : ByteArray} {nl : Nat} {rt : Option FieldType} (hcode : Cond.code y b nl rt ∈ lw_good) : GoodIn lw_good (Cond.code y b nl rt :: lw_good) := by
  intro x hx
  rcases List.mem_cons.mp hx with h | h
  · rw [h]
    exact ⟨hcode, Or.inl rfl⟩
  · exact ⟨h, lw_good_ok x h⟩
/-- what every call needs: the room, the code, the link -/
theorem ct_B {y : MethodName} {b : ByteArray} {nl n index : Nat} {rt : Option FieldType} {rm : Room} (hts : ∀ x ∈ lw_good, x.before args s = true) (hcode : Cond.code y b nl rt ∈ lw_good) (hini : Cond.initialized y.cls ∈ lw_good) (hlk : Cond.methodLink own index y ∈ lw_good)
    (hd : y.cls ≠ "java/lang/invoke/MethodHandle" ∧ y.cls ≠ "java/lang/invoke/VarHandle" ∧ (parseMethodDescriptor y.desc).map (fun d => d.parameters.length) = some n) (hR : rm.frames + 1 ≤ R.frames ∧ 8 + (nl + 11) + rm.locals ≤ R.locals) : CallB R s args own index y b nl rt (Cond.code y b nl rt :: lw_good) rm rm.cells rm.slots n :=
  callB_of n hts (ct_good hcode) rfl rfl rfl (hts _ hini) (hts _ hlk) hd hR
theorem ct_recv (hE : ev_K G A s s.heap) (hW : wd_W G.1 ev_cl A w s.heap H locs) {r ci : Nat} {fs : List Value} {q : vw_C} (hw : w r = some (.inr (ci, fs))) (hc : ev_cl[ci]? = some q) : ∃ cell : Cell, H[r]? = some cell ∧ cell.vm.isStatics = false ∧ s.vm.findClass q.1 = some cell.cls := by
  obtain ⟨q', h1, cell, g1, g2, g3, -⟩ := hW.1.at hw
  exact ⟨cell, g1, by rw [g3]; rfl, by rw [g2]; exact (hE.1.1 ci q hc).2.1⟩
variable {y : MethodName} {b : ByteArray} {nl n index : Nat} {rt : Option FieldType} {rm : Room} {As : List Value}
/-- the world behind a call -/
theorem ct_back {H1 : Heap} {locs1 : List Loc} {t : State} (hW : wd_W G.1 ev_cl A w s.heap H locs) (ht : t.heap = H1) (hB : ct_Post G w H.size u t) (hS : va_S A s.heap H1 locs1) : wd_W G.1 ev_cl A u s.heap H1 locs1 := by
  refine ⟨?_, hS, hW.2.2⟩
  have h1 : wd_H G.1 ev_cl (wd_A w H.size) u t.heap := hB
  rw [ht] at h1
  exact h1.weaken (wd_sub hW)
theorem ct_runV {ci : Nat} {fs : List Value} {q : vw_C} {r : Nat} {Qc : Array Value → State → Outcome → State → Prop} (S : CallFix p m c cc nL s args lw_good own) (hE : ev_K G A s s.heap) (hW : wd_W G.1 ev_cl A w s.heap H locs) (hM : Met l y (Cond.code y b nl rt :: lw_good) rm (va_Pc (.ref r :: As) (ct_Pre G w H.size)) Qc rm.cells rm.slots (wd_A w H.size)) (hw : w r = some (.inr (ci, fs))) (hc : ev_cl[ci]? = some q)
    (hcode : Cond.code y b nl rt ∈ lw_good) (hini : Cond.initialized y.cls ∈ lw_good) (hlk : Cond.methodLink own index y ∈ lw_good) (hinst : Cond.instanceMethod y ∈ lw_good) (hsel : Cond.selects q.1 y y ∈ lw_good) (hd : y.cls ≠ "java/lang/invoke/MethodHandle" ∧ y.cls ≠ "java/lang/invoke/VarHandle" ∧ (parseMethodDescriptor y.desc).map (fun d => d.parameters.length) = some As.length)
    (hR : rm.frames + 1 ≤ R.frames ∧ 8 + (nl + 11) + rm.locals ≤ R.locals) (hl : ls.size = nL) (hst : (rest.map fun v => v.category).sum ≤ 8) (hdg : decode cc pc = .ok (.invokevirtual index, 3)) (hf : cells + rm.cells ≤ R.cells ∧ slots + rm.slots ≤ R.slots) :
    va_Run p l e R s m args below meth c H locs cells slots rm.cells rm.slots (F0 m pc ls (As.reverse ++ .ref r :: rest)) rest (Qc (Value.ref r :: As).toArray) (wd_A w H.size) :=
  va_runV (C := q.1) S hM ⟨ct_B S.2.2.2.2 hcode hini hlk hd hR, S.2.2.2.2 _ hinst, S.2.2.2.2 _ hsel⟩ ⟨ct_blind, ct_recv hE hW hw hc, fun U hU hw2 => ⟨rfl, ct_env hE hW hU hw2⟩⟩ rfl rfl hl rfl (lv_room hst) hdg hf
theorem ct_runS {Qc : Array Value → State → Outcome → State → Prop} (S : CallFix p m c cc nL s args lw_good own) (hE : ev_K G A s s.heap) (hW : wd_W G.1 ev_cl A w s.heap H locs) (hM : Met l y (Cond.code y b nl rt :: lw_good) rm (va_Pc As (ct_Pre G w H.size)) Qc rm.cells rm.slots (wd_A w H.size))
    (hcode : Cond.code y b nl rt ∈ lw_good) (hini : Cond.initialized y.cls ∈ lw_good) (hlk : Cond.methodLink own index y ∈ lw_good) (hstt : Cond.static y ∈ lw_good) (hd : y.cls ≠ "java/lang/invoke/MethodHandle" ∧ y.cls ≠ "java/lang/invoke/VarHandle" ∧ (parseMethodDescriptor y.desc).map (fun d => d.parameters.length) = some As.length)
    (hR : rm.frames + 1 ≤ R.frames ∧ 8 + (nl + 11) + rm.locals ≤ R.locals) (hl : ls.size = nL) (hst : (rest.map fun v => v.category).sum ≤ 8) (hdg : decode cc pc = .ok (.invokestatic index, 3)) (hf : cells + rm.cells ≤ R.cells ∧ slots + rm.slots ≤ R.slots) :
    va_Run p l e R s m args below meth c H locs cells slots rm.cells rm.slots (F0 m pc ls (As.reverse ++ rest)) rest (Qc As.toArray) (wd_A w H.size) :=
  va_runS S hM ⟨ct_B S.2.2.2.2 hcode hini hlk hd hR, S.2.2.2.2 _ hstt⟩ ⟨ct_blind, fun U hU hw2 => ⟨rfl, ct_env hE hW hU hw2⟩⟩ rfl rfl hl rfl (lv_room hst) hdg hf
theorem ct_runI {r : Nat} {Qc : Array Value → State → Outcome → State → Prop} (S : CallFix p m c cc nL s args lw_good own) (hE : ev_K G A s s.heap) (hW : wd_W G.1 ev_cl A w s.heap H locs) (hM : Met l y (Cond.code y b nl none :: lw_good) rm (va_Pc (.ref r :: As) (ct_Pre G w H.size)) Qc rm.cells rm.slots (wd_A w H.size))
    (hcode : Cond.code y b nl none ∈ lw_good) (hini : Cond.initialized y.cls ∈ lw_good) (hlk : Cond.methodLink own index y ∈ lw_good) (hinst : Cond.instanceMethod y ∈ lw_good) (hy1 : y.name = "<init>") (hd : y.cls ≠ "java/lang/invoke/MethodHandle" ∧ y.cls ≠ "java/lang/invoke/VarHandle" ∧ (parseMethodDescriptor y.desc).map (fun d => d.parameters.length) = some As.length)
    (hR : rm.frames + 1 ≤ R.frames ∧ 8 + (nl + 11) + rm.locals ≤ R.locals) (hl : ls.size = nL) (hst : (rest.map fun v => v.category).sum ≤ 8) (hdg : decode cc pc = .ok (.invokespecial index, 3)) (hf : cells + rm.cells ≤ R.cells ∧ slots + rm.slots ≤ R.slots) :
    va_Run p l e R s m args below meth c H locs cells slots rm.cells rm.slots (F0 m pc ls (As.reverse ++ .ref r :: rest)) rest (Qc (Value.ref r :: As).toArray) (wd_A w H.size) :=
  va_runI S hM ⟨ct_B S.2.2.2.2 hcode hini hlk hd hR, hy1, S.2.2.2.2 _ hinst⟩ ⟨ct_blind, fun U hU hw2 => ⟨rfl, ct_env hE hW hU hw2⟩⟩ rfl rfl hl rfl (lv_room hst) hdg hf
/-- the constructor of a nest mate, a private one -/
theorem ct_runIN {r : Nat} {host : String} {Qc : Array Value → State → Outcome → State → Prop} (S : CallFix p m c cc nL s args lw_good own) (hE : ev_K G A s s.heap) (hW : wd_W G.1 ev_cl A w s.heap H locs) (hM : Met l y (Cond.code y b nl none :: lw_good) rm (va_Pc (.ref r :: As) (ct_Pre G w H.size)) Qc rm.cells rm.slots (wd_A w H.size))
    (hcode : Cond.code y b nl none ∈ lw_good) (hini : Cond.initialized y.cls ∈ lw_good) (hlk : va_Nw (.methodLinkNest own index y host) s) (hinst : Cond.instanceMethod y ∈ lw_good) (hy1 : y.name = "<init>") (hd : y.cls ≠ "java/lang/invoke/MethodHandle" ∧ y.cls ≠ "java/lang/invoke/VarHandle" ∧ (parseMethodDescriptor y.desc).map (fun d => d.parameters.length) = some As.length)
    (hR : rm.frames + 1 ≤ R.frames ∧ 8 + (nl + 11) + rm.locals ≤ R.locals) (hl : ls.size = nL) (hst : (rest.map fun v => v.category).sum ≤ 8) (hdg : decode cc pc = .ok (.invokespecial index, 3)) (hf : cells + rm.cells ≤ R.cells ∧ slots + rm.slots ≤ R.slots) :
    va_Run p l e R s m args below meth c H locs cells slots rm.cells rm.slots (F0 m pc ls (As.reverse ++ .ref r :: rest)) rest (Qc (Value.ref r :: As).toArray) (wd_A w H.size) :=
  va_runIN S hM ⟨va_cnB As.length S.2.2.2.2 (ct_good hcode) rfl rfl rfl hlk (S.2.2.2.2 _ hini) hd hR, hy1, S.2.2.2.2 _ hinst⟩ ⟨ct_blind, fun U hU hw2 => ⟨rfl, ct_env hE hW hU hw2⟩⟩ rfl rfl hl rfl (lv_room hst) hdg hf
/-- behind a call: an int, nothing, a reference -/
theorem ct_goi {post : Int32 → wd_M → Prop} {av : Array Value} (hW : wd_W G.1 ev_cl A w s.heap H locs) (hr : va_Run p l e R s m args below meth c H locs cells slots rm.cells rm.slots (F0 m pc ls st0) rest (va_Qi post (ct_Post G w H.size) (wd_A w H.size) av) (wd_A w H.size))
    (kk : ∀ (v : Int32) (u : wd_M) (H1 : Heap) (locs1 : List Loc), post v u → wd_W G.1 ev_cl A u s.heap H1 locs1 → W p l e R s m args below meth c H1 locs1 (cells + rm.cells) (slots + rm.slots) Q (F0 m (pc + 3) ls (.int v :: rest))) : W p l e R s m args below meth c H locs cells slots Q (F0 m pc ls st0) :=
  va_calli hr hW.2.1 (fun q _ h => wd_sub hW q h) (wd_sub hW) (fun v u t H1 locs1 ht hvm hp hB hz hk hS => kk v u H1 locs1 hp (ct_back hW ht hB hS))
theorem ct_gov {post : wd_M → Prop} {av : Array Value} (hW : wd_W G.1 ev_cl A w s.heap H locs) (hr : va_Run p l e R s m args below meth c H locs cells slots rm.cells rm.slots (F0 m pc ls st0) rest (va_Qv post (ct_Post G w H.size) (wd_A w H.size) av) (wd_A w H.size))
    (kk : ∀ (u : wd_M) (H1 : Heap) (locs1 : List Loc), post u → wd_W G.1 ev_cl A u s.heap H1 locs1 → W p l e R s m args below meth c H1 locs1 (cells + rm.cells) (slots + rm.slots) Q (F0 m (pc + 3) ls rest)) : W p l e R s m args below meth c H locs cells slots Q (F0 m pc ls st0) :=
  va_callv hr hW.2.1 (fun q _ h => wd_sub hW q h) (wd_sub hW) (fun u t H1 locs1 ht hvm hp hB hz hk hS => kk u H1 locs1 hp (ct_back hW ht hB hS))
theorem ct_goq {post : Option Nat → wd_M → Prop} {av : Array Value} (hW : wd_W G.1 ev_cl A w s.heap H locs) (hr : va_Run p l e R s m args below meth c H locs cells slots rm.cells rm.slots (F0 m pc ls st0) rest (va_Qq post (ct_Post G w H.size) (wd_A w H.size) av) (wd_A w H.size))
    (kk : ∀ (r : Option Nat) (u : wd_M) (H1 : Heap) (locs1 : List Loc), post r u → wd_W G.1 ev_cl A u s.heap H1 locs1 → W p l e R s m args below meth c H1 locs1 (cells + rm.cells) (slots + rm.slots) Q (F0 m (pc + 3) ls (va_rf r :: rest))) : W p l e R s m args below meth c H locs cells slots Q (F0 m pc ls st0) :=
  va_callq hr hW.2.1 (fun q _ h => wd_sub hW q h) (wd_sub hW) (fun r u t H1 locs1 ht hvm hp hB hz hk hS => kk r u H1 locs1 hp (ct_back hW ht hB hS))
end CTR
end
section
/-! WHAT THE SYSTEM IS, without a machine. A language: codes and capitals of the signs, least ends, whether capitals stay whole (0 or 1). A pattern: its language, letters, digits. A told word: its language, letters, places. -/
abbrev hy_L : Type := (Nat → Int32) × (Nat → Int32) × Nat × Nat × Int32
abbrev hy_P : Type := Nat × List Int32 × List Int32
abbrev hy_T : Type := Nat × List Int32 × Int32
/-- a number names one of n things -/
def nm_ (x : Int32) (n : Nat) : Prop := ¬ x < 0 ∧ ¬ nI n ≤ x
theorem nm_of {x : Int32} {n : Nat} (h : nm_ x n) (hn : n < 2 ^ 31) : ∃ k : Nat, k < n ∧ x = nI k := by
  rcases pk_ix x hn with q | q | q
  · exact absurd q h.1
  · exact absurd q h.2
  · exact q
theorem nm_nI {k n : Nat} (h : k < n) (hn : n < 2 ^ 31) : nm_ (nI k) n := ⟨nI_pos (by omega), nI_ge h hn⟩
/-- the first of xs that has P, by its number; -1 when there is none -/
def fm_ {α : Type} (xs : List α) (P : α → Prop) (v : Int32) : Prop := (v = -1 ∧ ∀ (k : Nat) (x : α), xs[k]? = some x → ¬ P x) ∨ ∃ (k : Nat) (x : α), v = nI k ∧ xs[k]? = some x ∧ P x ∧ ∀ (j : Nat) (y : α), j < k → xs[j]? = some y → ¬ P y
theorem fm_one {α : Type} {xs : List α} {P : α → Prop} {v v2 : Int32} (h : fm_ xs P v) (h2 : fm_ xs P v2) : v = v2 := by
  rcases h with ⟨rfl, h⟩ | ⟨k, x, rfl, h1, h3, h4⟩ <;> rcases h2 with ⟨rfl, g⟩ | ⟨k2, x2, rfl, g1, g3, g4⟩
  · rfl
  · exact absurd g3 (h k2 x2 g1)
  · exact absurd h3 (g k x h1)
  · rcases Nat.lt_trichotomy k k2 with q | q | q
    · exact absurd h3 (g4 k x q h1)
    · rw [q]
    · exact absurd g3 (h4 k2 x2 q g1)
/-- the pattern stands at st in the row -/
def hy_at (ls row : List Int32) (st : Nat) : Prop := st + ls.length ≤ row.length ∧ ∀ i : Nat, i < ls.length → row.getD (st + i) 0 = ls.getD i 0
/-- some pattern of the language has the digit d at place j of the row -/
def hy_cov (P : List hy_P) (lang : Nat) (row : List Int32) (j : Nat) (d : Int32) : Prop := ∃ (k : Nat) (p : hy_P), P[k]? = some p ∧ p.1 = lang ∧ ∃ st : Nat, hy_at p.2.1 row st ∧ st ≤ j ∧ j ≤ st + p.2.1.length ∧ p.2.2.getD (j - st) 0 = d
/-- d is the digit at place j: the greatest -/
def hy_isD (P : List hy_P) (lang : Nat) (row : List Int32) (j : Nat) (d : Int32) : Prop := (d = 0 ∨ hy_cov P lang row j d) ∧ 0 ≤ d ∧ ∀ d2 : Int32, hy_cov P lang row j d2 → d2 ≤ d
theorem hy_isD_one {P : List hy_P} {lang : Nat} {row : List Int32} {j : Nat} {d d2 : Int32} (h : hy_isD P lang row j d) (h2 : hy_isD P lang row j d2) : d = d2 := by
  refine Int32.le_antisymm ?_ ?_
  · rcases h.1 with e1 | e1
    · rw [e1]; exact h2.2.1
    · exact h2.2.2 d e1
  · rcases h2.1 with e1 | e1
    · rw [e1]; exact h.2.1
    · exact h.2.2 d2 e1
/-- the letters of a word in a language; the row with an edge before and behind -/
def hy_let (lg : hy_L) (wd : List Int32) : List Int32 := wd.map (fun s => lg.1 s.toNatClampNeg)
def hy_row (lt : List Int32) : List Int32 := 0 :: (lt ++ [0])
/-- every sign has a code -/
def hy_sp (lg : hy_L) (wd : List Int32) : Prop := ∀ x ∈ hy_let lg wd, ¬ x = 0
/-- a told word: the same language, the same letters -/
def hy_tm (lang : Nat) (lt : List Int32) (t : hy_T) : Prop := t.1 = lang ∧ t.2.1 = lt
def hy_bit (x : Int32) (k : Nat) : Int32 := (x.toUInt32 >>> ((nI k).toUInt32 &&& Int32.toUInt32 31)).toInt32 &&& 1
/-- the digit between signs k - 1 and k of a word with these letters -/
def hy_dig (P : List hy_P) (T : List hy_T) (lang : Nat) (lt : List Int32) (k : Nat) (d : Int32) : Prop :=
  (∃ (i : Nat) (t : hy_T), fm_ T (hy_tm lang lt) (nI i) ∧ i < T.length ∧ T[i]? = some t ∧ d = hy_bit t.2.2 k) ∨ (fm_ T (hy_tm lang lt) (-1) ∧ hy_isD P lang (hy_row lt) (k + 1) d)
theorem hy_dig_one {P : List hy_P} {T : List hy_T} {lang : Nat} {lt : List Int32} {k : Nat} {d d2 : Int32} (hT : T.length < 2 ^ 31) (h : hy_dig P T lang lt k d) (h2 : hy_dig P T lang lt k d2) : d = d2 := by
  have hne : ∀ i : Nat, i < T.length → nI i ≠ -1 := fun i hi q => by
    have h1 := nI_toInt (n := i) (by omega)
    rw [q] at h1
    have h2 : ((-1 : Int32)).toInt = -1 := by decide
    omega
  rcases h with ⟨i, t, f1, i1, t1, rfl⟩ | ⟨f1, h⟩ <;> rcases h2 with ⟨i2, t2, f2, i2l, t2e, rfl⟩ | ⟨f2, h2⟩
  · have e1 := (nI_eq (by omega) (by omega)).mp (fm_one f1 f2)
    subst e1
    rw [t1] at t2e
    cases t2e
    rfl
  · exact absurd (fm_one f1 f2) (hne i i1)
  · exact absurd (fm_one f2 f1) (hne i2 i2l)
  · exact hy_isD_one h h2
/-- a row that a pattern may have: a letter, and edges at its ends alone -/
def hy_pat (ml : List Int32) : Prop := (∃ (i : Nat) (x : Int32), ml[i]? = some x ∧ ¬ x = 0) ∧ ∀ i : Nat, ml[i]? = some 0 → i = 0 ∨ i + 1 = ml.length
def hy_tot (P : List hy_P) : Nat := (P.map (fun p => p.2.1.length)).sum
/-- an array holds a list -/
def li_ (xs : List Int32) (f : Nat → Int32) : Prop := ∀ (i : Nat) (x : Int32), xs[i]? = some x → f i = x
theorem li_get {xs : List Int32} {f : Nat → Int32} (h : li_ xs f) {i : Nat} (hi : i < xs.length) : f i = xs.getD i 0 := by
  rw [h i xs[i] (List.getElem?_eq_getElem hi)]
  simp [hi]
theorem li_nil {f : Nat → Int32} : li_ [] f := fun i x h => by simp at h
theorem li_put {xs : List Int32} {f : Nat → Int32} {y : Int32} (h : li_ xs f) : li_ (xs ++ [y]) (upd f xs.length y) := by
  intro i x hx
  by_cases hi : i < xs.length
  · rw [List.getElem?_append_left hi] at hx
    rw [pk_un (by omega)]
    exact h i x hx
  · rw [List.getElem?_append_right (by omega)] at hx
    have h1 : i - xs.length < 1 := (List.getElem?_eq_some_iff.mp hx).1
    have h2 : i = xs.length := by omega
    subst h2
    rw [Nat.sub_self] at hx
    cases hx
    exact pk_us
theorem li_take {xs : List Int32} {f g : Nat → Int32} (h : li_ xs f) (hg : ∀ i, i < xs.length → g i = f i) : li_ xs g := fun i x hx => by
  rw [hg i (List.getElem?_eq_some_iff.mp hx).1]
  exact h i x hx
/-- two lists of one length that one array holds are one -/
theorem li_one {xs ys : List Int32} {f g : Nat → Int32} (hx : li_ xs f) (hy : li_ ys g) (hl : xs.length = ys.length) (hfg : ∀ i, i < xs.length → f i = g i) : xs = ys := by
  refine List.ext_getElem hl (fun i h1 h2 => ?_)
  rw [← hx i xs[i] (List.getElem?_eq_getElem h1), ← hy i ys[i] (List.getElem?_eq_getElem h2)]
  exact hfg i h1
/-- the places of a word -/
def hy_od (d : Int32) : Prop := d - d / 2 * 2 = 1
def hy_pk (P : List hy_P) (T : List hy_T) (lang : Nat) (lg : hy_L) (wd : List Int32) (k : Nat) : Prop := 1 ≤ k ∧ k < wd.length ∧ lg.2.2.1 ≤ k ∧ k + lg.2.2.2.1 ≤ wd.length ∧ ∃ d : Int32, hy_dig P T lang (hy_let lg wd) k d ∧ hy_od d
noncomputable def hy_pls (P : List hy_P) (T : List hy_T) (lang : Nat) (lg : hy_L) (wd : List Int32) (n : Nat) : List Nat := (List.range n).filter (fun k => @decide (hy_pk P T lang lg wd k) (Classical.propDecidable _))
theorem hy_pls_yes {P : List hy_P} {T : List hy_T} {lang : Nat} {lg : hy_L} {wd : List Int32} {n : Nat} (h : hy_pk P T lang lg wd n) : hy_pls P T lang lg wd (n + 1) = hy_pls P T lang lg wd n ++ [n] := by
  unfold hy_pls
  rw [List.range_succ, List.filter_append, List.filter_cons_of_pos (by simp [h])]
  rfl
theorem hy_pls_no {P : List hy_P} {T : List hy_T} {lang : Nat} {lg : hy_L} {wd : List Int32} {n : Nat} (h : ¬ hy_pk P T lang lg wd n) : hy_pls P T lang lg wd (n + 1) = hy_pls P T lang lg wd n := by
  unfold hy_pls
  rw [List.range_succ, List.filter_append, List.filter_cons_of_neg (by simp [h])]
  simp
theorem hy_pls_le {P : List hy_P} {T : List hy_T} {lang : Nat} {lg : hy_L} {wd : List Int32} {n : Nat} : (hy_pls P T lang lg wd n).length ≤ n := by
  unfold hy_pls
  exact Nat.le_trans (List.length_filter_le _ _) (by simp)
/-- a word that stays whole -/
def hy_wh (lg : hy_L) (wd : List Int32) : Prop := ¬ lg.2.2.2.2 = 0 ∧ ∃ s : Int32, wd[0]? = some s ∧ ¬ lg.2.1 s.toNatClampNeg = 0
end
section
/-! MORE ROWS: fields under an heir's name, clone of an int array, casts. -/
section WDM
variable {p : Program} {l : Launch} {e : Env} {R : Room} {s : State} {m : MethodId} {args : Array Value} {below : List Frame} {meth : Method} {c : Code} {H : Heap} {locs : List Loc} {cells slots : Nat} {Q : State → Prop}
variable {cc : ByteArray} {pc nL : Nat} {ls : Array Slot} {rest : List Value} {D : va_G} {cl : List vw_C} {A : Nat → Prop} {a : Nat} {tys : List (ClassId × FieldType)} {w : wd_M} {H0 : Heap} {Ts : List Cond} {own : String}
theorem wd_getS (S : CallFix p m c cc nL s args Ts own) {ref C : String} {T : u_T} {N ci index : Nat} (hin : ∀ x ∈ u_ws C T N, x ∈ Ts) (hK : va_K D cl tys s) (hW : wd_W D cl A w H0 H locs) {fs : List Value} (he : w a = some (.inr (ci, fs))) (hc : cl[ci]? = some (C, T, N)) (k : Nat) (hk : k < N) (hlink : Cond.fieldLink own index ref (T k).2.1 (T k).2.2.1 ∈ Ts) (hsm : Cond.sameField ref (T k).1 (T k).2.1 (T k).2.2.1 ∈ Ts) {v : Value} (hv : fs[k]? = some v) (hdg : decode cc pc = .ok (.getfield index, 3))
    (kk : W p l e R s m args below meth c H locs cells slots Q (F0 m (pc + 3) ls (v :: rest))) : W p l e R s m args below meth c H locs cells slots Q (F0 m pc ls (.ref a :: rest)) := by
  obtain ⟨hx, hb, hml, hown, hts⟩ := S
  obtain ⟨⟨L, hL, hP, hD⟩, hS, hA⟩ := hW
  obtain ⟨j, hj⟩ := va_pl_get (X := []) (L := L) (f := wd_f w) (wd_mem hL he)
  rw [wd_fa he] at hj
  exact va_get hx hb hts hin hown hK hP j hj hc k hk (hts _ hlink) (fun x h => u_same (hts _ hsm) x h) hv hdg kk
theorem wd_putS (S : CallFix p m c cc nL s args Ts own) {ref C : String} {T : u_T} {N ci index : Nat} (hin : ∀ x ∈ u_ws C T N, x ∈ Ts) (ty0 : Nat → FieldType) (hty : ∀ k, k < N → parseFieldDescriptor (T k).2.2.1 = some (ty0 k)) (hnm : ∀ a, a < N → ∀ b, b < N → a ≠ b → (T a).2.1 ≠ (T b).2.1) (hK : va_K D cl tys s) (hW : wd_W D cl A w H0 H locs) {fs : List Value} (he : w a = some (.inr (ci, fs))) (hc : cl[ci]? = some (C, T, N)) (k : Nat) (hk : k < N) (hlink : Cond.fieldLink own index ref (T k).2.1 (T k).2.2.1 ∈ Ts) (hsm : Cond.sameField ref (T k).1 (T k).2.1 (T k).2.2.1 ∈ Ts) (hfin : (T k).2.2.2 = false) {v : Value} (hn : narrow (ty0 k) v = v) (hfit : fits (ty0 k) v = true) (hl : k < fs.length)
    (hdg : decode cc pc = .ok (.putfield index, 3)) (kk : ∀ (H1 : Heap) (locs1 : List Loc), ∀ w1 : wd_M, w1 = va_up w a (some (.inr (ci, fs.set k v))) → wd_W D cl A w1 H0 H1 locs1 → W p l e R s m args below meth c H1 locs1 cells slots Q (F0 m (pc + 3) ls rest)) : W p l e R s m args below meth c H locs cells slots Q (F0 m pc ls (v :: .ref a :: rest)) := by
  obtain ⟨hx, hb, hml, hown, hts⟩ := S
  obtain ⟨⟨L, hL, hP, hD⟩, hS, hA⟩ := hW
  obtain ⟨j, hj⟩ := va_pl_get (X := []) (L := L) (f := wd_f w) (wd_mem hL he)
  have hj2 := hj
  rw [wd_fa he] at hj
  exact va_put hx hb hts hin ty0 hty hnm hown hK hP hD hS j hj hc k hk (hts _ hlink) (fun x h => u_same (hts _ hsm) x h) hfin (hty k hk) hn hfit hl hdg (fun H1 locs1 hP1 hD1 hS1 => kk H1 locs1 _ rfl (wd_set hL hD hA he hj2 hP1 hD1 hS1))
/-- clone() of an int array -/
theorem wd_cloneI (S : CallFix p m c cc nL s args Ts own) (hsz : ls.size = nL) {index : Nat} (hlink : Cond.methodLink own index ⟨"[I", "clone", "()Ljava/lang/Object;"⟩ ∈ Ts) (hsame : Cond.sameMethod "[I" "java/lang/Object" "clone" "()Ljava/lang/Object;" ∈ Ts) (hnat : Cond.native ⟨"java/lang/Object", "clone", "()Ljava/lang/Object;"⟩ ∈ Ts) (hinst : Cond.instanceMethod ⟨"java/lang/Object", "clone", "()Ljava/lang/Object;"⟩ ∈ Ts) (hsel : Cond.selects "[I" ⟨"[I", "clone", "()Ljava/lang/Object;"⟩ ⟨"java/lang/Object", "clone", "()Ljava/lang/Object;"⟩ ∈ Ts) (hcl : va_Nw (.castable "[I" "java/lang/Cloneable") s)
    (hK : va_K D cl tys s) (hW : wd_W D cl A w H0 H locs) (t0 : Nat) {cA : ClassId} {n : Nat} {f : Nat → Int32} (ha : w a = some (.inl (cA, n, .inl f))) (ht : tys[t0]? = some (cA, .int))
    (hframes : 1 ≤ R.frames) (hlocals : (rest.map fun v => v.category).sum + 14 ≤ R.locals) (hcells : cells + 1 ≤ R.cells) (hslots : slots + n ≤ R.slots) (hdg : decode cc pc = .ok (.invokevirtual index, 3))
    (kk : ∀ (q : Nat) (H1 : Heap), w q = none → ∀ w1 : wd_M, w1 = va_up w q (some (.inl (cA, n, .inl f))) → wd_W D cl A w1 H0 H1 locs → W p l e R s m args below meth c H1 locs (cells + 1) (slots + n) Q (F0 m (pc + 3) ls (.ref q :: rest))) : W p l e R s m args below meth c H locs cells slots Q (F0 m pc ls (.ref a :: rest)) := by
  obtain ⟨hx, hb, hml, hown, hts⟩ := S
  obtain ⟨⟨L, hL, hP, hD⟩, hS, hA⟩ := hW
  obtain ⟨j, hj⟩ := va_pl_get (X := []) (L := L) (f := wd_f w) (wd_mem hL ha)
  rw [wd_fa ha] at hj
  have hnm : s.vm.findClass "[I" = some cA := (hK.2 t0 _ ht).2
  have hfit : ∀ (i : Nat) (v : Value), (vp_cell cA (n, .inl f)).slots[i]? = some v → fits .int v = true := by
    intro i v hv
    have hi : i < n := by
      have h1 := (Array.getElem?_eq_some_iff.mp hv).1
      rw [vp_cell_i, arrV_size] at h1
      exact h1
    rw [vp_cell_i, arrV_read _ _ hi] at hv
    cases hv
    rfl
  refine va_clone hx hb (hml.trans hsz.symm) hown (hts _ hlink) (hts _ hsame) (hts _ hnat) (hts _ hinst) (hts _ hsel) hcl hK hP hD hS hA j t0 hj ht hnm hfit hframes hlocals hcells hslots hdg (fun q H1 hK1 hP1 hD1 hS1 => ?_)
  obtain ⟨hn, hW1⟩ := wd_push hL hA hP1 hD1 hS1
  exact kk q H1 hn _ rfl hW1
theorem wd_castI (S : CallFix p m c cc nL s args Ts own) {index : Nat} (hlink : Cond.classLink own index "[I" ∈ Ts) (hK : va_K D cl tys s) (hW : wd_W D cl A w H0 H locs) (t0 : Nat) {cA : ClassId} {n : Nat} {f : Nat → Int32} (ha : w a = some (.inl (cA, n, .inl f))) (ht : tys[t0]? = some (cA, .int)) (hdg : decode cc pc = .ok (.checkcast index, 3))
    (kk : W p l e R s m args below meth c H locs cells slots Q (F0 m (pc + 3) ls (.ref a :: rest))) : W p l e R s m args below meth c H locs cells slots Q (F0 m pc ls (.ref a :: rest)) := by
  obtain ⟨hx, hb, hml, hown, hts⟩ := S
  obtain ⟨⟨L, hL, hP, hD⟩, hS, hA⟩ := hW
  obtain ⟨j, hj⟩ := va_pl_get (X := []) (L := L) (f := wd_f w) (wd_mem hL ha)
  rw [wd_fa ha] at hj
  exact va_castA hx hb hown (hts _ hlink) hP j hj (show s.vm.findClass "[I" = some cA from (hK.2 t0 _ ht).2) hdg kk
/-- a cast of an object to its own class -/
theorem wd_cast (S : CallFix p m c cc nL s args Ts own) {C : String} {index ci N : Nat} {T : u_T} (hlink : Cond.classLink own index C ∈ Ts) (hK : va_K D cl tys s) (hW : wd_W D cl A w H0 H locs) {fs : List Value} (ha : w a = some (.inr (ci, fs))) (hc : cl[ci]? = some (C, T, N)) (hdg : decode cc pc = .ok (.checkcast index, 3))
    (kk : W p l e R s m args below meth c H locs cells slots Q (F0 m (pc + 3) ls (.ref a :: rest))) : W p l e R s m args below meth c H locs cells slots Q (F0 m pc ls (.ref a :: rest)) := by
  obtain ⟨hx, hb, hml, hown, hts⟩ := S
  obtain ⟨q', h1, cell, g1, g2, g3, -⟩ := hW.1.at ha
  have hk := (hK.1 ci _ hc).2
  exact va_castS hx hb hown (hts _ hlink) hk ⟨cell, g1, by rw [g3]; rfl, by rw [g2]; exact hk.1⟩ hdg kk
end WDM
/-- the cell of an array of references, as a receiver -/
theorem wd_oarr {G : ev_G} {A : Nat → Prop} {s : State} {H0 H : Heap} {locs : List Loc} {w : wd_M} (hE : ev_K G A s H0) (hW : wd_W G.1 ev_cl A w H0 H locs) {a n : Nat} {f : Nat → Option Nat} (ha : w a = some (.inl (G.2.1 2, n, .inr (.inr (.inr (.inr f)))))) : ∃ cell : Cell, H[a]? = some cell ∧ cell.vm.isStatics = false ∧ s.vm.findClass "[Ljava/lang/Object;" = some cell.cls :=
  ⟨_, hW.1.at ha, rfl, va_nmO (hE.1.2 2 _ rfl).2 (by decide +kernel)⟩
end
section
/-! LEAVES: tests of numbers, Math, ArrayList's reads. -/
/-- the room of a method d levels above the ground, that makes mc cells of ms slots -/
abbrev rm_ (d mc ms : Nat) : Room := { frames := d, cells := mc, slots := ms, locals := 30 * d }
/-- a truth value as an int -/
def bl_ (v : Int32) (P : Prop) : Prop := (v = 1 ∧ P) ∨ (v = 0 ∧ ¬ P)
theorem bl_t {v : Int32} {P : Prop} (h : bl_ v P) (h0 : ¬ v = 0) : P := h.elim (fun q => q.2) (fun q => absurd q.1 h0)
theorem bl_f {v : Int32} {P : Prop} (h : bl_ v P) (h0 : v = 0) : ¬ P := h.elim (fun q => absurd (q.1.symm.trans h0) (by decide)) (fun q => q.2)
theorem bl_1 {v : Int32} {P : Prop} (h : bl_ v P) (h0 : v = 1) : P := h.elim (fun q => q.2) (fun q => absurd (q.1.symm.trans h0) (by decide))
theorem bl_i {P Q : Prop} {v : Int32} (h : bl_ v P) (hpq : P ↔ Q) : bl_ v Q := h.elim (fun q => Or.inl ⟨q.1, hpq.mp q.2⟩) (fun q => Or.inr ⟨q.1, fun z => q.2 (hpq.mpr z)⟩)

set_option maxHeartbeats 4000000 in
set_option maxRecDepth 100000 in
/-- isSign(x) -/
theorem c_HR_isSign (l : Launch) (G : ev_G) (w : wd_M) (sz : Nat) (x : Int32)  : ct_i l y_HR_isSign b_HR_isSign 1 (some FieldType.boolean) (rm_ 0 0 0) G w sz [.int x] (fun v u => bl_ v (¬ x < 0 ∧ ¬ 256 ≤ x) ∧ u = w) := by
  refine ct_enter (by decide +kernel) (Nat.le_of_ble_eq_true rfl) ?_
  intro p_ e_ s m below meth c_ hsz S hr hlocks hname hE hW ls hl
  have S : CallFix p_ m c_ b_HR_isSign 1 s _ lw_good "HyphenRows" := S
  have hx := S.1
  have hb := S.2.1
  have hK := hE.1
  have hl : lv_has ls 1 [(0, .int x)] := hl
  refine lv_iload_n hx hb d_HR_isSign_0 rfl (lv_at hl 0 rfl) ?_
  refine lv_if_lt (tgt := 15) hx hb d_HR_isSign_1 (by decide) (fun h1 => ?_) (fun h1 => ?_)
  · refine lv_iconst (v := 0) hx hb d_HR_isSign_15 (by decide) ?_
    exact ct_iret S hr rfl hlocks hW (⟨Or.inr ⟨rfl, fun q => q.1 h1⟩, rfl⟩) (Nat.le_refl _) (Nat.le_refl _) d_HR_isSign_16
  · refine lv_iload_n hx hb d_HR_isSign_4 rfl (lv_at hl 0 rfl) ?_
    refine lv_sipush (v := 256) hx hb d_HR_isSign_5 (by decide) ?_
    refine lv_icmp_ge (tgt := 15) hx hb d_HR_isSign_8 (by decide) (fun h8 => ?_) (fun h8 => ?_)
    · refine lv_iconst (v := 0) hx hb d_HR_isSign_15 (by decide) ?_
      exact ct_iret S hr rfl hlocks hW (⟨Or.inr ⟨rfl, fun q => q.2 h8⟩, rfl⟩) (Nat.le_refl _) (Nat.le_refl _) d_HR_isSign_16
    · refine lv_iconst (v := 1) hx hb d_HR_isSign_11 (by decide) ?_
      refine lv_goto (tgt := 16) hx hb d_HR_isSign_12 (by decide) ?_
      exact ct_iret S hr rfl hlocks hW (⟨Or.inl ⟨rfl, h1, h8⟩, rfl⟩) (Nat.le_refl _) (Nat.le_refl _) d_HR_isSign_16

set_option maxHeartbeats 4000000 in
set_option maxRecDepth 100000 in
/-- isLetterOrZero(x) -/
theorem c_HR_isLetterOrZero (l : Launch) (G : ev_G) (w : wd_M) (sz : Nat) (x : Int32)  : ct_i l y_HR_isLetterOrZero b_HR_isLetterOrZero 1 (some FieldType.boolean) (rm_ 0 0 0) G w sz [.int x] (fun v u => bl_ v (¬ x < 0 ∧ ¬ 30 < x) ∧ u = w) := by
  refine ct_enter (by decide +kernel) (Nat.le_of_ble_eq_true rfl) ?_
  intro p_ e_ s m below meth c_ hsz S hr hlocks hname hE hW ls hl
  have S : CallFix p_ m c_ b_HR_isLetterOrZero 1 s _ lw_good "HyphenRows" := S
  have hx := S.1
  have hb := S.2.1
  have hK := hE.1
  have hl : lv_has ls 1 [(0, .int x)] := hl
  refine lv_iload_n hx hb d_HR_isLetterOrZero_0 rfl (lv_at hl 0 rfl) ?_
  refine lv_if_lt (tgt := 14) hx hb d_HR_isLetterOrZero_1 (by decide) (fun h1 => ?_) (fun h1 => ?_)
  · refine lv_iconst (v := 0) hx hb d_HR_isLetterOrZero_14 (by decide) ?_
    exact ct_iret S hr rfl hlocks hW (⟨Or.inr ⟨rfl, fun q => q.1 h1⟩, rfl⟩) (Nat.le_refl _) (Nat.le_refl _) d_HR_isLetterOrZero_15
  · refine lv_iload_n hx hb d_HR_isLetterOrZero_4 rfl (lv_at hl 0 rfl) ?_
    refine lv_bipush (v := 30) hx hb d_HR_isLetterOrZero_5 (by decide) ?_
    refine lv_icmp_gt (tgt := 14) hx hb d_HR_isLetterOrZero_7 (by decide) (fun h7 => ?_) (fun h7 => ?_)
    · refine lv_iconst (v := 0) hx hb d_HR_isLetterOrZero_14 (by decide) ?_
      exact ct_iret S hr rfl hlocks hW (⟨Or.inr ⟨rfl, fun q => q.2 h7⟩, rfl⟩) (Nat.le_refl _) (Nat.le_refl _) d_HR_isLetterOrZero_15
    · refine lv_iconst (v := 1) hx hb d_HR_isLetterOrZero_10 (by decide) ?_
      refine lv_goto (tgt := 15) hx hb d_HR_isLetterOrZero_11 (by decide) ?_
      exact ct_iret S hr rfl hlocks hW (⟨Or.inl ⟨rfl, h1, h7⟩, rfl⟩) (Nat.le_refl _) (Nat.le_refl _) d_HR_isLetterOrZero_15

set_option maxHeartbeats 4000000 in
set_option maxRecDepth 100000 in
/-- isDigit(x) -/
theorem c_HR_isDigit (l : Launch) (G : ev_G) (w : wd_M) (sz : Nat) (x : Int32)  : ct_i l y_HR_isDigit b_HR_isDigit 1 (some FieldType.boolean) (rm_ 0 0 0) G w sz [.int x] (fun v u => bl_ v (¬ x < 0 ∧ ¬ 9 < x) ∧ u = w) := by
  refine ct_enter (by decide +kernel) (Nat.le_of_ble_eq_true rfl) ?_
  intro p_ e_ s m below meth c_ hsz S hr hlocks hname hE hW ls hl
  have S : CallFix p_ m c_ b_HR_isDigit 1 s _ lw_good "HyphenRows" := S
  have hx := S.1
  have hb := S.2.1
  have hK := hE.1
  have hl : lv_has ls 1 [(0, .int x)] := hl
  refine lv_iload_n hx hb d_HR_isDigit_0 rfl (lv_at hl 0 rfl) ?_
  refine lv_if_lt (tgt := 14) hx hb d_HR_isDigit_1 (by decide) (fun h1 => ?_) (fun h1 => ?_)
  · refine lv_iconst (v := 0) hx hb d_HR_isDigit_14 (by decide) ?_
    exact ct_iret S hr rfl hlocks hW (⟨Or.inr ⟨rfl, fun q => q.1 h1⟩, rfl⟩) (Nat.le_refl _) (Nat.le_refl _) d_HR_isDigit_15
  · refine lv_iload_n hx hb d_HR_isDigit_4 rfl (lv_at hl 0 rfl) ?_
    refine lv_bipush (v := 9) hx hb d_HR_isDigit_5 (by decide) ?_
    refine lv_icmp_gt (tgt := 14) hx hb d_HR_isDigit_7 (by decide) (fun h7 => ?_) (fun h7 => ?_)
    · refine lv_iconst (v := 0) hx hb d_HR_isDigit_14 (by decide) ?_
      exact ct_iret S hr rfl hlocks hW (⟨Or.inr ⟨rfl, fun q => q.2 h7⟩, rfl⟩) (Nat.le_refl _) (Nat.le_refl _) d_HR_isDigit_15
    · refine lv_iconst (v := 1) hx hb d_HR_isDigit_10 (by decide) ?_
      refine lv_goto (tgt := 15) hx hb d_HR_isDigit_11 (by decide) ?_
      exact ct_iret S hr rfl hlocks hW (⟨Or.inl ⟨rfl, h1, h7⟩, rfl⟩) (Nat.le_refl _) (Nat.le_refl _) d_HR_isDigit_15

set_option maxHeartbeats 4000000 in
set_option maxRecDepth 100000 in
/-- isLeast(x) -/
theorem c_HR_isLeast (l : Launch) (G : ev_G) (w : wd_M) (sz : Nat) (x : Int32)  : ct_i l y_HR_isLeast b_HR_isLeast 1 (some FieldType.boolean) (rm_ 0 0 0) G w sz [.int x] (fun v u => bl_ v (¬ x < 0 ∧ ¬ 20 < x) ∧ u = w) := by
  refine ct_enter (by decide +kernel) (Nat.le_of_ble_eq_true rfl) ?_
  intro p_ e_ s m below meth c_ hsz S hr hlocks hname hE hW ls hl
  have S : CallFix p_ m c_ b_HR_isLeast 1 s _ lw_good "HyphenRows" := S
  have hx := S.1
  have hb := S.2.1
  have hK := hE.1
  have hl : lv_has ls 1 [(0, .int x)] := hl
  refine lv_iload_n hx hb d_HR_isLeast_0 rfl (lv_at hl 0 rfl) ?_
  refine lv_if_lt (tgt := 14) hx hb d_HR_isLeast_1 (by decide) (fun h1 => ?_) (fun h1 => ?_)
  · refine lv_iconst (v := 0) hx hb d_HR_isLeast_14 (by decide) ?_
    exact ct_iret S hr rfl hlocks hW (⟨Or.inr ⟨rfl, fun q => q.1 h1⟩, rfl⟩) (Nat.le_refl _) (Nat.le_refl _) d_HR_isLeast_15
  · refine lv_iload_n hx hb d_HR_isLeast_4 rfl (lv_at hl 0 rfl) ?_
    refine lv_bipush (v := 20) hx hb d_HR_isLeast_5 (by decide) ?_
    refine lv_icmp_gt (tgt := 14) hx hb d_HR_isLeast_7 (by decide) (fun h7 => ?_) (fun h7 => ?_)
    · refine lv_iconst (v := 0) hx hb d_HR_isLeast_14 (by decide) ?_
      exact ct_iret S hr rfl hlocks hW (⟨Or.inr ⟨rfl, fun q => q.2 h7⟩, rfl⟩) (Nat.le_refl _) (Nat.le_refl _) d_HR_isLeast_15
    · refine lv_iconst (v := 1) hx hb d_HR_isLeast_10 (by decide) ?_
      refine lv_goto (tgt := 15) hx hb d_HR_isLeast_11 (by decide) ?_
      exact ct_iret S hr rfl hlocks hW (⟨Or.inl ⟨rfl, h1, h7⟩, rfl⟩) (Nat.le_refl _) (Nat.le_refl _) d_HR_isLeast_15

set_option maxHeartbeats 4000000 in
set_option maxRecDepth 100000 in
/-- in(x, a, b) -/
theorem c_Mo_in (l : Launch) (G : ev_G) (w : wd_M) (sz : Nat) (x a b : Int32)  : ct_i l y_Mo_in b_Mo_in 3 (some FieldType.boolean) (rm_ 0 0 0) G w sz [.int x, .int a, .int b] (fun v u => bl_ v (¬ x < a ∧ ¬ b < x) ∧ u = w) := by
  refine ct_enter (by decide +kernel) (Nat.le_of_ble_eq_true rfl) ?_
  intro p_ e_ s m below meth c_ hsz S hr hlocks hname hE hW ls hl
  have S : CallFix p_ m c_ b_Mo_in 3 s _ lw_good "HyphenRowsModel" := S
  have hx := S.1
  have hb := S.2.1
  have hK := hE.1
  have hl : lv_has ls 3 [(0, .int x), (1, .int a), (2, .int b)] := hl
  refine lv_iload_n hx hb d_Mo_in_0 rfl (lv_at hl 0 rfl) ?_
  refine lv_iload_n hx hb d_Mo_in_1 rfl (lv_at hl 1 rfl) ?_
  refine lv_icmp_lt (tgt := 14) hx hb d_Mo_in_2 (by decide) (fun h2 => ?_) (fun h2 => ?_)
  · refine lv_iconst (v := 0) hx hb d_Mo_in_14 (by decide) ?_
    exact ct_iret S hr rfl hlocks hW (⟨Or.inr ⟨rfl, fun q => q.1 h2⟩, rfl⟩) (Nat.le_refl _) (Nat.le_refl _) d_Mo_in_15
  · refine lv_iload_n hx hb d_Mo_in_5 rfl (lv_at hl 0 rfl) ?_
    refine lv_iload_n hx hb d_Mo_in_6 rfl (lv_at hl 2 rfl) ?_
    refine lv_icmp_gt (tgt := 14) hx hb d_Mo_in_7 (by decide) (fun h7 => ?_) (fun h7 => ?_)
    · refine lv_iconst (v := 0) hx hb d_Mo_in_14 (by decide) ?_
      exact ct_iret S hr rfl hlocks hW (⟨Or.inr ⟨rfl, fun q => q.2 h7⟩, rfl⟩) (Nat.le_refl _) (Nat.le_refl _) d_Mo_in_15
    · refine lv_iconst (v := 1) hx hb d_Mo_in_10 (by decide) ?_
      refine lv_goto (tgt := 15) hx hb d_Mo_in_11 (by decide) ?_
      exact ct_iret S hr rfl hlocks hW (⟨Or.inl ⟨rfl, h2, h7⟩, rfl⟩) (Nat.le_refl _) (Nat.le_refl _) d_Mo_in_15

set_option maxHeartbeats 4000000 in
set_option maxRecDepth 100000 in
/-- size() -/
theorem c_AL_size (l : Launch) (G : ev_G) (w : wd_M) (sz : Nat) (a ed : Nat) (n mo : Int32) (ha : w a = some (.inr (4, [.ref ed, .int n, .int mo]))) : ct_i l y_AL_size b_AL_size 1 (some FieldType.int) (rm_ 0 0 0) G w sz [.ref a] (fun v u => v = n ∧ u = w) := by
  refine ct_enter (by decide +kernel) (Nat.le_of_ble_eq_true rfl) ?_
  intro p_ e_ s m below meth c_ hsz S hr hlocks hname hE hW ls hl
  have S : CallFix p_ m c_ b_AL_size 1 s _ lw_good "java/util/ArrayList" := S
  have hx := S.1
  have hb := S.2.1
  have hK := hE.1
  have hl : lv_has ls 1 [(0, .ref a)] := hl
  refine lv_aload_n hx hb d_AL_size_0 rfl (lv_at hl 0 rfl) ?_
  refine wd_get S i_AL hK hW ha rfl 1 (by decide) k_AL_48 rfl rfl d_AL_size_1 ?_
  exact ct_iret S hr rfl hlocks hW (⟨rfl, rfl⟩) (Nat.le_refl _) (Nat.le_refl _) d_AL_size_4
end
section
/-! ARRAYLIST. The empty array of the JDK lies outside every world. -/
/-- the elements of a list lie in e: the JDK's own empty array, or one of ours -/
def ea_ (G : ev_G) (w : wd_M) (e : Nat) (els : List Nat) : Prop := (e = G.2.2 0 ∧ els = []) ∨ ∃ (cap : Nat) (f : Nat → Option Nat), w e = some (.inl (G.2.1 2, cap, .inr (.inr (.inr (.inr f))))) ∧ els.length ≤ cap ∧ 0 < cap ∧ cap ≤ 1000 ∧ ∀ i : Nat, i < els.length → f i = els[i]?
/-- a list -/
def al_ (G : ev_G) (w : wd_M) (a e : Nat) (els : List Nat) : Prop := ∃ mo : Int32, w a = some (.inr (4, [.ref e, .int (nI els.length), .int mo])) ∧ ea_ G w e els
/-- an object that may lie in a list -/
def ob_ (w : wd_M) (y : Nat) : Prop := ∃ (ci : Nat) (fs : List Value), w y = some (.inr (ci, fs)) ∧ (ci = 1 ∨ ci = 2 ∨ ci = 3)
theorem ob_cast {G : ev_G} {w : wd_M} {y : Nat} {U : State} (hN : ev_N G U) (h : ob_ w y) : ∃ (ci : Nat) (fs : List Value) (r : vw_C), w y = some (.inr (ci, fs)) ∧ ev_cl[ci]? = some r ∧ va_Nw (.castable r.1 "java/lang/Object") U := by
  obtain ⟨ci, fs, h1, rfl | rfl | rfl⟩ := h
  · exact ⟨1, fs, _, h1, rfl, (hN.2.1 R_La (by simp)).1⟩
  · exact ⟨2, fs, _, h1, rfl, (hN.2.1 R_Pa (by simp)).1⟩
  · exact ⟨3, fs, _, h1, rfl, (hN.2.1 R_To (by simp)).1⟩

set_option maxHeartbeats 4000000 in
set_option maxRecDepth 100000 in
/-- AbstractCollection() -/
theorem c_Ac_init (l : Launch) (G : ev_G) (w : wd_M) (sz : Nat) (a : Nat)  : ct_v l y_Ac_init b_Ac_init 1 none (rm_ 1 0 0) G w sz [.ref a] (fun u => u = w) := by
  refine ct_enter (by decide +kernel) (Nat.le_of_ble_eq_true rfl) ?_
  intro p_ e_ s m below meth c_ hsz S hr hlocks hname hE hW ls hl
  have S : CallFix p_ m c_ b_Ac_init 1 s _ lw_good "java/util/AbstractCollection" := S
  have hx := S.1
  have hb := S.2.1
  have hK := hE.1
  have hl : lv_has ls 1 [(0, .ref a)] := hl
  refine lv_aload_n hx hb d_Ac_init_0 rfl (lv_at hl 0 rfl) ?_
  refine W.objInit hx hb S.2.2.2.1 (S.2.2.2.2 _ k_Ac_1) (S.2.2.2.2 _ ki_Oj_init) (S.2.2.2.2 _ kc_Oj_init) rfl (by rw [S.2.2.1]; exact hl.1) rfl d_Ac_init_1 (Nat.le_of_ble_eq_true rfl) (Nat.le_of_ble_eq_true rfl) ?_
  refine W.eq (g2 := F0 m 4 ls []) rfl ?_
  exact ct_vret S hr hlocks hW (rfl) (Nat.le_refl _) (Nat.le_refl _) d_Ac_init_4

set_option maxHeartbeats 4000000 in
set_option maxRecDepth 100000 in
/-- AbstractList() -/
theorem c_Ab_init (l : Launch) (G : ev_G) (w : wd_M) (sz : Nat) (a : Nat) (ed : Value) (n mo : Int32) (ha : w a = some (.inr (4, [ed, .int n, .int mo]))) : ct_v l y_Ab_init b_Ab_init 1 none (rm_ 2 0 0) G w sz [.ref a] (fun u => u = va_up w a (some (.inr (4, [ed, .int n, .int 0])))) := by
  refine ct_enter (by decide +kernel) (Nat.le_of_ble_eq_true rfl) ?_
  intro p_ e_ s m below meth c_ hsz S hr hlocks hname hE hW ls hl
  have S : CallFix p_ m c_ b_Ab_init 1 s _ lw_good "java/util/AbstractList" := S
  have hx := S.1
  have hb := S.2.1
  have hK := hE.1
  have hl : lv_has ls 1 [(0, .ref a)] := hl
  refine lv_aload_n hx hb d_Ab_init_0 rfl (lv_at hl 0 rfl) ?_
  refine ct_gov hW (ct_runI (As := []) (rest := []) S hE hW (c_Ac_init l G _ _ a) kc_Ac_init kz_Ac k_Ab_1 ki_Ac_init rfl kd_Ac_init ⟨Nat.le_of_ble_eq_true rfl, Nat.le_of_ble_eq_true rfl⟩ hl.1 (Nat.le_of_ble_eq_true rfl) d_Ab_init_1 ⟨Nat.le_of_ble_eq_true rfl, Nat.le_of_ble_eq_true rfl⟩) (fun u_1 H locs hp_2 hW => ?_)
  rw [hp_2] at hW
  refine lv_aload_n hx hb d_Ab_init_4 rfl (lv_at hl 0 rfl) ?_
  refine lv_iconst (v := 0) hx hb d_Ab_init_5 (by decide) ?_
  refine wd_put S i_AL t_AL t_AL_ok n_AL hK hW ha rfl 2 (by decide) k_Ab_7 rfl rfl rfl rfl (Nat.le_of_ble_eq_true rfl) d_Ab_init_6 (fun H locs w_4 ew_4 hW => ?_)
  have ha : w_4 a = some (.inr (4, [ed, .int n, .int 0])) := wd_here ew_4
  exact ct_vret S hr hlocks hW (ew_4) (Nat.le_refl _) (Nat.le_refl _) d_Ab_init_9

set_option maxHeartbeats 4000000 in
set_option maxRecDepth 100000 in
/-- ArrayList() -/
theorem c_AL_init (l : Launch) (G : ev_G) (w : wd_M) (sz : Nat) (a : Nat) (ha : w a = some (.inr (4, [.null, .int 0, .int 0]))) : ct_v l y_AL_init b_AL_init 1 none (rm_ 3 0 0) G w sz [.ref a] (fun u => u = va_up w a (some (.inr (4, [.ref (G.2.2 0), .int 0, .int 0])))) := by
  refine ct_enter (by decide +kernel) (Nat.le_of_ble_eq_true rfl) ?_
  intro p_ e_ s m below meth c_ hsz S hr hlocks hname hE hW ls hl
  have S : CallFix p_ m c_ b_AL_init 1 s _ lw_good "java/util/ArrayList" := S
  have hx := S.1
  have hb := S.2.1
  have hK := hE.1
  have hl : lv_has ls 1 [(0, .ref a)] := hl
  refine lv_aload_n hx hb d_AL_init_0 rfl (lv_at hl 0 rfl) ?_
  refine ct_gov hW (ct_runI (As := []) (rest := []) S hE hW (c_Ab_init l G _ _ a .null 0 0 ha) kc_Ab_init kz_Ab k_AL_1 ki_Ab_init rfl kd_Ab_init ⟨Nat.le_of_ble_eq_true rfl, Nat.le_of_ble_eq_true rfl⟩ hl.1 (Nat.le_of_ble_eq_true rfl) d_AL_init_1 ⟨Nat.le_of_ble_eq_true rfl, Nat.le_of_ble_eq_true rfl⟩) (fun u_1 H locs hp_2 hW => ?_)
  have ha : u_1 a = some (.inr (4, [.null, .int 0, .int 0])) := wd_here hp_2
  refine lv_aload_n hx hb d_AL_init_4 rfl (lv_at hl 0 rfl) ?_
  refine va_gets hx hb hE.2.2.1 hW.2.1 S.2.2.2.1 (S.2.2.2.2 _ k_AL_39) (fun _ h9 => h9) d_AL_init_5 ?_
  refine wd_put S i_AL t_AL t_AL_ok n_AL hK hW ha rfl 0 (by decide) k_AL_9 rfl rfl rfl rfl (Nat.le_of_ble_eq_true rfl) d_AL_init_8 (fun H locs w_4 ew_4 hW => ?_)
  have ha : w_4 a = some (.inr (4, [.ref (G.2.2 0), .int 0, .int 0])) := wd_here ew_4
  exact ct_vret S hr hlocks hW (by rw [ew_4, hp_2]; exact bx_uu _ _ _ _) (Nat.le_refl _) (Nat.le_refl _) d_AL_init_11

set_option maxHeartbeats 4000000 in
set_option maxRecDepth 100000 in
/-- checkIndex(i, n, null), in range -/
theorem c_Pc_checkIndex (l : Launch) (G : ev_G) (w : wd_M) (sz : Nat) (i n : Int32) (hi0 : ¬ i < 0) (hin : ¬ n ≤ i) : ct_i l y_Pc_checkIndex b_Pc_checkIndex 3 (some FieldType.int) (rm_ 0 0 0) G w sz [.int i, .int n, .null] (fun v u => v = i ∧ u = w) := by
  refine ct_enter (by decide +kernel) (Nat.le_of_ble_eq_true rfl) ?_
  intro p_ e_ s m below meth c_ hsz S hr hlocks hname hE hW ls hl
  have S : CallFix p_ m c_ b_Pc_checkIndex 3 s _ lw_good "jdk/internal/util/Preconditions" := S
  have hx := S.1
  have hb := S.2.1
  have hK := hE.1
  have hl : lv_has ls 3 [(0, .int i), (1, .int n), (2, .null)] := hl
  refine lv_iload_n hx hb d_Pc_checkIndex_0 rfl (lv_at hl 0 rfl) ?_
  refine lv_if_lt (tgt := 9) hx hb d_Pc_checkIndex_1 (by decide) (fun h1 => ?_) (fun h1 => ?_)
  · exact absurd h1 hi0
  · refine lv_iload_n hx hb d_Pc_checkIndex_4 rfl (lv_at hl 0 rfl) ?_
    refine lv_iload_n hx hb d_Pc_checkIndex_5 rfl (lv_at hl 1 rfl) ?_
    refine lv_icmp_lt (tgt := 16) hx hb d_Pc_checkIndex_6 (by decide) (fun h6 => ?_) (fun h6 => ?_)
    · refine lv_iload_n hx hb d_Pc_checkIndex_16 rfl (lv_at hl 0 rfl) ?_
      exact ct_iret S hr rfl hlocks hW (⟨rfl, rfl⟩) (Nat.le_refl _) (Nat.le_refl _) d_Pc_checkIndex_17
    · exact absurd (Int32.not_lt.mp h6) hin

set_option maxHeartbeats 4000000 in
set_option maxRecDepth 100000 in
/-- Objects.checkIndex(i, n), in range -/
theorem c_Ob_checkIndex (l : Launch) (G : ev_G) (w : wd_M) (sz : Nat) (i n : Int32) (hi0 : ¬ i < 0) (hin : ¬ n ≤ i) : ct_i l y_Ob_checkIndex b_Ob_checkIndex 2 (some FieldType.int) (rm_ 1 0 0) G w sz [.int i, .int n] (fun v u => v = i ∧ u = w) := by
  refine ct_enter (by decide +kernel) (Nat.le_of_ble_eq_true rfl) ?_
  intro p_ e_ s m below meth c_ hsz S hr hlocks hname hE hW ls hl
  have S : CallFix p_ m c_ b_Ob_checkIndex 2 s _ lw_good "java/util/Objects" := S
  have hx := S.1
  have hb := S.2.1
  have hK := hE.1
  have hl : lv_has ls 2 [(0, .int i), (1, .int n)] := hl
  refine lv_iload_n hx hb d_Ob_checkIndex_0 rfl (lv_at hl 0 rfl) ?_
  refine lv_iload_n hx hb d_Ob_checkIndex_1 rfl (lv_at hl 1 rfl) ?_
  refine lv_null hx hb d_Ob_checkIndex_2 ?_
  refine ct_goi hW (ct_runS (As := [.int i, .int n, .null]) (rest := []) S hE hW (c_Pc_checkIndex l G _ _ i n hi0 hin) kc_Pc_checkIndex kz_Pc k_Ob_105 ks_Pc_checkIndex kd_Pc_checkIndex ⟨Nat.le_of_ble_eq_true rfl, Nat.le_of_ble_eq_true rfl⟩ hl.1 (Nat.le_of_ble_eq_true rfl) d_Ob_checkIndex_3 ⟨Nat.le_of_ble_eq_true rfl, Nat.le_of_ble_eq_true rfl⟩) (fun v_3 u_1 H locs hp_2 hW => ?_)
  obtain ⟨hv, hu_4⟩ := hp_2
  rw [hu_4] at hW
  exact ct_iret S hr rfl hlocks hW (⟨hv, rfl⟩) (Nat.le_refl _) (Nat.le_refl _) d_Ob_checkIndex_6

set_option maxHeartbeats 4000000 in
set_option maxRecDepth 100000 in
/-- elementData(i) -/
theorem c_AL_elementData (l : Launch) (G : ev_G) (w : wd_M) (sz : Nat) (a e cap : Nat) (n mo i : Int32) (f : Nat → Option Nat) (ha : w a = some (.inr (4, [.ref e, .int n, .int mo]))) (he : w e = some (.inl (G.2.1 2, cap, .inr (.inr (.inr (.inr f)))))) (hin : vp_in i cap) : ct_q l y_AL_elementData b_AL_elementData 2 (some (FieldType.object "java/lang/Object")) (rm_ 0 0 0) G w sz [.ref a, .int i] (fun v u => v = f i.toNatClampNeg ∧ u = w) := by
  refine ct_enter (by decide +kernel) (Nat.le_of_ble_eq_true rfl) ?_
  intro p_ e_ s m below meth c_ hsz S hr hlocks hname hE hW ls hl
  have S : CallFix p_ m c_ b_AL_elementData 2 s _ lw_good "java/util/ArrayList" := S
  have hx := S.1
  have hb := S.2.1
  have hK := hE.1
  have hl : lv_has ls 2 [(0, .ref a), (1, .int i)] := hl
  refine lv_aload_n hx hb d_AL_elementData_0 rfl (lv_at hl 0 rfl) ?_
  refine wd_get S i_AL hK hW ha rfl 0 (by decide) k_AL_9 rfl rfl d_AL_elementData_1 ?_
  refine lv_iload_n hx hb d_AL_elementData_4 rfl (lv_at hl 1 rfl) ?_
  refine wd_aald S hK hW 2 he rfl hin d_AL_elementData_5 ?_
  exact ct_qret S hr (by first | exact Or.inl ⟨_, rfl⟩ | exact Or.inr ⟨_, rfl⟩) hlocks hW (⟨rfl, rfl⟩) (Nat.le_refl _) (Nat.le_refl _) d_AL_elementData_6

set_option maxHeartbeats 4000000 in
set_option maxRecDepth 100000 in
/-- get(k), in range -/
theorem c_AL_get (l : Launch) (G : ev_G) (w : wd_M) (sz : Nat) (a e : Nat) (els : List Nat) (k : Nat) (hal : al_ G w a e els) (hk : k < els.length) : ct_q l y_AL_get b_AL_get 2 (some (FieldType.object "java/lang/Object")) (rm_ 2 0 0) G w sz [.ref a, .int (nI k)] (fun v u => v = els[k]? ∧ u = w) := by
  refine ct_enter (by decide +kernel) (Nat.le_of_ble_eq_true rfl) ?_
  intro p_ e_ s m below meth c_ hsz S hr hlocks hname hE hW ls hl
  have S : CallFix p_ m c_ b_AL_get 2 s _ lw_good "java/util/ArrayList" := S
  have hx := S.1
  have hb := S.2.1
  have hK := hE.1
  have hl : lv_has ls 2 [(0, .ref a), (1, .int (nI k))] := hl
  obtain ⟨mo, ha, he⟩ := hal
  rcases he with ⟨-, rfl⟩ | ⟨cap, f, he, h1, h2, h3, hf⟩
  · exact absurd hk (Nat.not_lt_zero k)
  refine lv_iload_n hx hb d_AL_get_0 rfl (lv_at hl 1 rfl) ?_
  refine lv_aload_n hx hb d_AL_get_1 rfl (lv_at hl 0 rfl) ?_
  refine wd_get S i_AL hK hW ha rfl 1 (by decide) k_AL_48 rfl rfl d_AL_get_2 ?_
  refine ct_goi hW (ct_runS (As := [.int (nI k), .int (nI els.length)]) (rest := []) S hE hW (c_Ob_checkIndex l G _ _ (nI k) (nI els.length) (nI_pos (by omega)) (nI_ge hk (by omega))) kc_Ob_checkIndex kz_Ob k_AL_118 ks_Ob_checkIndex kd_Ob_checkIndex ⟨Nat.le_of_ble_eq_true rfl, Nat.le_of_ble_eq_true rfl⟩ hl.1 (Nat.le_of_ble_eq_true rfl) d_AL_get_5 ⟨Nat.le_of_ble_eq_true rfl, Nat.le_of_ble_eq_true rfl⟩) (fun v_3 u_1 H locs hp_2 hW => ?_)
  obtain ⟨hv1, hu_4⟩ := hp_2
  rw [hu_4] at hW
  refine lv_pop hx hb d_AL_get_8 rfl ?_
  refine lv_aload_n hx hb d_AL_get_9 rfl (lv_at hl 0 rfl) ?_
  refine lv_iload_n hx hb d_AL_get_10 rfl (lv_at hl 1 rfl) ?_
  refine ct_goq hW (ct_runV (As := [.int (nI k)]) (rest := []) (q := (R_AL, F_AL, 3)) S hE hW (c_AL_elementData l G _ _ a e cap (nI els.length) mo (nI k) f ha he (vp_in_nI (by omega) (by omega))) ha rfl kc_AL_elementData kz_AL k_AL_123 ki_AL_elementData kv_AL_elementData kd_AL_elementData ⟨Nat.le_of_ble_eq_true rfl, Nat.le_of_ble_eq_true rfl⟩ hl.1 (Nat.le_of_ble_eq_true rfl) d_AL_get_11 ⟨Nat.le_of_ble_eq_true rfl, Nat.le_of_ble_eq_true rfl⟩) (fun v_7 u_5 H locs hp_6 hW => ?_)
  obtain ⟨hv2, hu_8⟩ := hp_6
  rw [hu_8] at hW
  rw [nI_clamp (by omega), hf k hk] at hv2
  exact ct_qret S hr (by first | exact Or.inl ⟨_, rfl⟩ | exact Or.inr ⟨_, rfl⟩) hlocks hW (⟨hv2, rfl⟩) (Nat.le_refl _) (Nat.le_refl _) d_AL_get_14
end
section
/-! ARRAYLIST GROWS. -/

set_option maxHeartbeats 4000000 in
set_option maxRecDepth 100000 in
/-- newLength(cap, 1, cap >> 1) -/
theorem c_As_newLength (l : Launch) (G : ev_G) (w : wd_M) (sz : Nat) (cap : Nat) (hc : cap ≤ 1000) : ct_i l y_As_newLength b_As_newLength 4 (some FieldType.int) (rm_ 1 0 0) G w sz [.int (nI cap), .int 1, .int (nI cap >>> ((1 : Int32) &&& 31))] (fun v u => v = nI (cap + max 1 (cap / 2)) ∧ u = w) := by
  refine ct_enter (by decide +kernel) (Nat.le_of_ble_eq_true rfl) ?_
  intro p_ e_ s m below meth c_ hsz S hr hlocks hname hE hW ls hl
  have S : CallFix p_ m c_ b_As_newLength 4 s _ lw_good "jdk/internal/util/ArraysSupport" := S
  have hx := S.1
  have hb := S.2.1
  have hK := hE.1
  have hl : lv_has ls 4 [(0, .int (nI cap)), (1, .int 1), (2, .int (nI cap >>> ((1 : Int32) &&& 31)))] := hl
  have hmx : (if (1 : Int32) < nI cap >>> ((1 : Int32) &&& 31) then nI cap >>> ((1 : Int32) &&& 31) else 1) = nI (max 1 (cap / 2)) := by
    rw [pk_shrN (by omega) _ 1 (by decide)]
    split
    · rename_i h
      have h2 : 1 < cap / 2 ^ 1 := (nI_ltI (a := 1) (b := cap / 2 ^ 1) (by omega) (by omega)).mp h
      rw [show max 1 (cap / 2) = cap / 2 ^ 1 by omega]
    · rename_i h
      have h2 : ¬ 1 < cap / 2 ^ 1 := fun q => h ((nI_ltI (a := 1) (b := cap / 2 ^ 1) (by omega) (by omega)).mpr q)
      rw [show max 1 (cap / 2) = 1 by omega]
      rfl
  refine lv_iload_n hx hb d_As_newLength_0 rfl (lv_at hl 0 rfl) ?_
  refine lv_iload_n hx hb d_As_newLength_1 rfl (lv_at hl 1 rfl) ?_
  refine lv_iload_n hx hb d_As_newLength_2 rfl (lv_at hl 2 rfl) ?_
  refine va_mmax hx hb (S.2.2.1.trans hl.1.symm) S.2.2.2.1 (S.2.2.2.2 _ k_As_194) (S.2.2.2.2 _ ks_Ma_max) (S.2.2.2.2 _ kz_Ma) (S.2.2.2.2 _ kc_Ma_max) (Nat.le_of_ble_eq_true rfl) (Nat.le_of_ble_eq_true rfl) (Nat.le_of_ble_eq_true rfl) (Nat.le_of_ble_eq_true rfl) d_As_newLength_3 ?_
  rw [show (if (1 : Int32) < nI cap >>> ((1 : Int32) &&& 31) then nI cap >>> ((1 : Int32) &&& 31) else 1) = nI (max 1 (cap / 2)) from hmx]
  refine lv_iadd hx hb d_As_newLength_6 ?_
  refine lv_topi (fun y3 ey3 => ?_)
  refine lv_istore_n (lv' := [(3, .int y3), (0, .int (nI cap)), (1, .int 1), (2, .int (nI cap >>> ((1 : Int32) &&& 31)))]) hx hb d_As_newLength_7 rfl hl (by decide) rfl (fun ls hl => ?_)
  refine lv_iconst (v := 0) hx hb d_As_newLength_8 (by decide) ?_
  refine lv_iload_n hx hb d_As_newLength_9 rfl (lv_at hl 0 rfl) ?_
  rw [nI_add] at ey3
  refine lv_icmp_ge (tgt := 21) hx hb d_As_newLength_10 (by decide) (fun h10 => ?_) (fun h10 => ?_)
  · exact absurd h10 (by rw [ey3, ← nI_0]; exact nI_ge (by omega) (by omega))
  · refine lv_iload_n hx hb d_As_newLength_13 rfl (lv_at hl 0 rfl) ?_
    refine lv_ldc hx hb S.2.2.2.1 (S.2.2.2.2 _ kk_As_200) d_As_newLength_14 ?_
    refine lv_icmp_gt (tgt := 21) hx hb d_As_newLength_16 (by decide) (fun h16 => ?_) (fun h16 => ?_)
    · exact absurd h16 (by rw [ey3]; exact nI_nlt (a := 2147483639) (b := cap + max 1 (cap / 2)) (by omega) (by decide))
    · refine lv_iload_n hx hb d_As_newLength_19 rfl (lv_at hl 0 rfl) ?_
      exact ct_iret S hr rfl hlocks hW (⟨ey3, rfl⟩) (Nat.le_refl _) (Nat.le_refl _) d_As_newLength_20

set_option maxHeartbeats 4000000 in
set_option maxRecDepth 100000 in
/-- copyOf(objects, k, Object[].class) -/
theorem c_Ar_copyOf3 (l : Launch) (G : ev_G) (w : wd_M) (sz : Nat) (ed cap k : Nat) (f : Nat → Option Nat) (he : w ed = some (.inl (G.2.1 2, cap, .inr (.inr (.inr (.inr f)))))) (hk : cap ≤ k) (hk3 : k ≤ 300) (hob : ∀ i, i < cap → ∀ y, f i = some y → ob_ w y) : ct_q l y_Ar_copyOf3 b_Ar_copyOf3 4 (some (FieldType.array (FieldType.object "java/lang/Object"))) (rm_ 1 1 300) G w sz [.ref ed, .int (nI k), .ref (G.2.2 1)] (fun v u => ∃ (q : Nat) (g : Nat → Option Nat), v = some q ∧ w q = none ∧ u = va_up w q (some (.inl (G.2.1 2, k, .inr (.inr (.inr (.inr g)))))) ∧ ∀ i, i < cap → g i = f i) := by
  refine ct_enter (by decide +kernel) (Nat.le_of_ble_eq_true rfl) ?_
  intro p_ e_ s m below meth c_ hsz S hr hlocks hname hE hW ls hl
  have S : CallFix p_ m c_ b_Ar_copyOf3 4 s _ lw_good "java/util/Arrays" := S
  have hx := S.1
  have hb := S.2.1
  have hK := hE.1
  have hl : lv_has ls 4 [(0, .ref ed), (1, .int (nI k)), (2, .ref (G.2.2 1))] := hl
  refine lv_aload_n hx hb d_Ar_copyOf3_0 rfl (lv_at hl 2 rfl) ?_
  refine va_ldcM hx hb S.2.2.2.1 (S.2.2.2.2 _ k_Ar_110) hE.2.1.2.2.2.2.1 d_Ar_copyOf3_1 ?_
  refine lv_acmp_ne (rx := some (G.2.2 1)) (ry := some (G.2.2 1)) (tgt := 13) hx hb d_Ar_copyOf3_3 (by decide) (fun h3 => absurd rfl h3) (fun _ => ?_)
  refine lv_iload_n hx hb d_Ar_copyOf3_6 rfl (lv_at hl 1 rfl) ?_
  refine wd_newq S k_Ar_2 hE.2.1.2.2.2.1 hK hW 2 rfl (n := (nI k)) (N' := k) (nI_pos (by omega)) (nI_clamp (by omega)) (by omega) (Nat.le_refl _) (by show 0 + k ≤ 300; omega) d_Ar_copyOf3_7 (fun q H hq w_1 ew_1 hW => ?_)
  have he := wd_keep ew_1 (wd_neN he hq) he
  have cq : w_1 q = some (.inl (G.2.1 2, k, .inr (.inr (.inr (.inr (fun _ => none)))))) := wd_here ew_1
  refine W.widen (k := 1) (n := 300) (Nat.le_refl _) (by omega) ?_
  refine lv_goto (tgt := 24) hx hb d_Ar_copyOf3_10 (by decide) ?_
  refine lv_astore_n (lv' := [(3, .ref q), (0, .ref ed), (1, .int (nI k)), (2, .ref (G.2.2 1))]) hx hb d_Ar_copyOf3_24 rfl hl (by decide) rfl (fun ls hl => ?_)
  refine lv_aload_n hx hb d_Ar_copyOf3_25 rfl (lv_at hl 1 rfl) ?_
  refine lv_iconst (v := 0) hx hb d_Ar_copyOf3_26 (by decide) ?_
  refine lv_aload_n hx hb d_Ar_copyOf3_27 rfl (lv_at hl 0 rfl) ?_
  refine lv_iconst (v := 0) hx hb d_Ar_copyOf3_28 (by decide) ?_
  refine lv_aload_n hx hb d_Ar_copyOf3_29 rfl (lv_at hl 1 rfl) ?_
  refine wd_alen S hK hW 2 he rfl d_Ar_copyOf3_30 ?_
  refine lv_iload_n hx hb d_Ar_copyOf3_31 rfl (lv_at hl 2 rfl) ?_
  refine va_mmin hx hb (S.2.2.1.trans hl.1.symm) S.2.2.2.1 (S.2.2.2.2 _ k_Ar_304) (S.2.2.2.2 _ ks_Ma_min) (S.2.2.2.2 _ kz_Ma) (S.2.2.2.2 _ kc_Ma_min) (Nat.le_of_ble_eq_true rfl) (Nat.le_of_ble_eq_true rfl) (Nat.le_of_ble_eq_true rfl) (Nat.le_of_ble_eq_true rfl) d_Ar_copyOf3_32 ?_
  rw [show (if nI k < nI cap then nI k else nI cap) = nI cap from if_neg (nI_nlt hk (by omega))]
  refine wd_copyM S hl.1 k_Ar_150 kn_Sy_arraycopy ks_Sy_arraycopy kz_Sy hK hW 2 he cq rfl (by decide) (by decide) (nI_pos (by omega)) (by rw [nI_clamp (by omega)]; show 0 + cap ≤ cap; omega) (by rw [nI_clamp (by omega)]; show 0 + cap ≤ k; omega) (fun i hi y hy => ?_) (Nat.le_of_ble_eq_true rfl) (Nat.le_of_ble_eq_true rfl) d_Ar_copyOf3_35 (fun H locs w_2 ew_2 hW => ?_)
  · rw [nI_clamp (by omega)] at hi
    have hy : f i = some y := by rw [← hy]; show f i = f (0 + i); rw [Nat.zero_add]
    obtain ⟨ci, fs, r, g1, g2, g3⟩ := ob_cast hE.2.1 (hob i hi y hy)
    exact ⟨ci, fs, r, wd_keep ew_1 (wd_neN g1 hq) g1, g2, g3⟩
  refine lv_aload_n hx hb d_Ar_copyOf3_38 rfl (lv_at hl 0 rfl) ?_
  refine W.eq (g2 := F0 m 39 ls [va_rf (some q)]) rfl ?_
  exact ct_qret S hr (by first | exact Or.inl ⟨_, rfl⟩ | exact Or.inr ⟨_, rfl⟩) hlocks hW (⟨q, va_cpy f (fun _ => none) (Int32.toNatClampNeg 0) (Int32.toNatClampNeg 0) (nI cap).toNatClampNeg, rfl, hq, by rw [ew_2, ew_1]; exact bx_uu _ _ _ _, fun i hi => by rw [nI_clamp (by omega)]; exact (pk_cpy_in (Nat.zero_le _) (by show i < 0 + cap; omega)).trans (by show f (0 + (i - 0)) = f i; rw [Nat.zero_add, Nat.sub_zero])⟩) (Nat.le_refl _) (Nat.le_refl _) d_Ar_copyOf3_39

set_option maxHeartbeats 4000000 in
set_option maxRecDepth 100000 in
/-- copyOf(objects, k) -/
theorem c_Ar_copyOf2 (l : Launch) (G : ev_G) (w : wd_M) (sz : Nat) (ed cap k : Nat) (f : Nat → Option Nat) (he : w ed = some (.inl (G.2.1 2, cap, .inr (.inr (.inr (.inr f)))))) (hk : cap ≤ k) (hk3 : k ≤ 300) (hob : ∀ i, i < cap → ∀ y, f i = some y → ob_ w y) : ct_q l y_Ar_copyOf2 b_Ar_copyOf2 2 (some (FieldType.array (FieldType.object "java/lang/Object"))) (rm_ 2 1 300) G w sz [.ref ed, .int (nI k)] (fun v u => ∃ (q : Nat) (g : Nat → Option Nat), v = some q ∧ w q = none ∧ u = va_up w q (some (.inl (G.2.1 2, k, .inr (.inr (.inr (.inr g)))))) ∧ ∀ i, i < cap → g i = f i) := by
  refine ct_enter (by decide +kernel) (Nat.le_of_ble_eq_true rfl) ?_
  intro p_ e_ s m below meth c_ hsz S hr hlocks hname hE hW ls hl
  have S : CallFix p_ m c_ b_Ar_copyOf2 2 s _ lw_good "java/util/Arrays" := S
  have hx := S.1
  have hb := S.2.1
  have hK := hE.1
  have hl : lv_has ls 2 [(0, .ref ed), (1, .int (nI k))] := hl
  refine lv_aload_n hx hb d_Ar_copyOf2_0 rfl (lv_at hl 0 rfl) ?_
  refine lv_iload_n hx hb d_Ar_copyOf2_1 rfl (lv_at hl 1 rfl) ?_
  refine lv_aload_n hx hb d_Ar_copyOf2_2 rfl (lv_at hl 0 rfl) ?_
  refine va_getC hx hb (S.2.2.1.trans hl.1.symm) (C := "[Ljava/lang/Object;") S.2.2.2.1 (S.2.2.2.2 _ k_Ar_86) (va_Dc.use hE.2.1.2.2.2.2.2) (S.2.2.2.2 _ kv_Oa_Oj_getClass) (S.2.2.2.2 _ ki_Oj_getClass) (S.2.2.2.2 _ kn_Oj_getClass) hE.2.1.2.2.2.2.1 (wd_oarr hE hW he) (Nat.le_of_ble_eq_true rfl) (Nat.le_of_ble_eq_true rfl) d_Ar_copyOf2_3 ?_
  refine ct_goq hW (ct_runS (As := [.ref ed, .int (nI k), .ref (G.2.2 1)]) (rest := []) S hE hW (c_Ar_copyOf3 l G _ _ ed cap k f he hk hk3 hob) kc_Ar_copyOf3 kz_Ar k_Ar_300 ks_Ar_copyOf3 kd_Ar_copyOf3 ⟨Nat.le_of_ble_eq_true rfl, Nat.le_of_ble_eq_true rfl⟩ hl.1 (Nat.le_of_ble_eq_true rfl) d_Ar_copyOf2_6 ⟨Nat.le_of_ble_eq_true rfl, Nat.le_of_ble_eq_true rfl⟩) (fun v_3 u_1 H locs hp_2 hW => ?_)
  exact ct_qret S hr (by first | exact Or.inl ⟨_, rfl⟩ | exact Or.inr ⟨_, rfl⟩) hlocks hW (hp_2) (Nat.le_refl _) (Nat.le_refl _) d_Ar_copyOf2_9

set_option maxHeartbeats 4000000 in
set_option maxRecDepth 100000 in
/-- grow(size + 1), when the array is full -/
theorem c_AL_grow1 (l : Launch) (G : ev_G) (w : wd_M) (sz : Nat) (a ed : Nat) (els : List Nat) (mo : Int32) (ha : w a = some (.inr (4, [.ref ed, .int (nI els.length), .int mo]))) (he : (ed = G.2.2 0 ∧ els = []) ∨ ∃ f : Nat → Option Nat, w ed = some (.inl (G.2.1 2, els.length, .inr (.inr (.inr (.inr f))))) ∧ 0 < els.length ∧ ∀ i, i < els.length → f i = els[i]?) (hlen : els.length < 200) (hob : ∀ y ∈ els, ob_ w y) : ct_q l y_AL_grow1 b_AL_grow1 4 (some (FieldType.array (FieldType.object "java/lang/Object"))) (rm_ 3 1 300) G w sz [.ref a, .int (nI (els.length + 1))] (fun v u => ∃ (q cap2 : Nat) (g : Nat → Option Nat), v = some q ∧ w q = none ∧ els.length < cap2 ∧ cap2 ≤ 300 ∧ (∀ i, i < els.length → g i = els[i]?) ∧ u = va_up (va_up w q (some (.inl (G.2.1 2, cap2, .inr (.inr (.inr (.inr g)))))) ) a (some (.inr (4, [.ref q, .int (nI els.length), .int mo])))) := by
  refine ct_enter (by decide +kernel) (Nat.le_of_ble_eq_true rfl) ?_
  intro p_ e_ s m below meth c_ hsz S hr hlocks hname hE hW ls hl
  have S : CallFix p_ m c_ b_AL_grow1 4 s _ lw_good "java/util/ArrayList" := S
  have hx := S.1
  have hb := S.2.1
  have hK := hE.1
  have hl : lv_has ls 4 [(0, .ref a), (1, .int (nI (els.length + 1)))] := hl
  rcases he with ⟨rfl, rfl⟩ | ⟨f, he, hpos, hf⟩
  · refine lv_aload_n hx hb d_AL_grow1_0 rfl (lv_at hl 0 rfl) ?_
    refine wd_get S i_AL hK hW ha rfl 0 (by decide) k_AL_9 rfl rfl d_AL_grow1_1 ?_
    refine va_tlen hx hb hE.2.2.2.1 hW.2.1 (v := 0) rfl d_AL_grow1_4 ?_
    refine lv_istore_n (lv' := [(2, .int 0), (0, .ref a), (1, .int (nI (([] : List Nat).length + 1)))]) hx hb d_AL_grow1_5 rfl hl (by decide) rfl (fun ls hl => ?_)
    refine lv_iload_n hx hb d_AL_grow1_6 rfl (lv_at hl 0 rfl) ?_
    refine lv_if_gt (tgt := 20) hx hb d_AL_grow1_7 (by decide) (fun h7 => ?_) (fun h7 => ?_)
    · exact absurd h7 (by decide)
    · refine lv_aload_n hx hb d_AL_grow1_10 rfl (lv_at hl 1 rfl) ?_
      refine wd_get S i_AL hK hW ha rfl 0 (by decide) k_AL_9 rfl rfl d_AL_grow1_11 ?_
      refine va_gets hx hb hE.2.2.1 hW.2.1 S.2.2.2.1 (S.2.2.2.2 _ k_AL_39) (fun _ h9 => h9) d_AL_grow1_14 ?_
      refine lv_acmp_eq (rx := some (G.2.2 0)) (ry := some (G.2.2 0)) (tgt := 45) hx hb d_AL_grow1_17 (by decide) (fun _ => ?_) (fun h17 => absurd rfl h17)
      refine lv_aload_n hx hb d_AL_grow1_45 rfl (lv_at hl 1 rfl) ?_
      refine lv_bipush (v := 10) hx hb d_AL_grow1_46 (by decide) ?_
      refine lv_iload_n hx hb d_AL_grow1_48 rfl (lv_at hl 2 rfl) ?_
      refine va_mmax hx hb (S.2.2.1.trans hl.1.symm) S.2.2.2.1 (S.2.2.2.2 _ k_AL_79) (S.2.2.2.2 _ ks_Ma_max) (S.2.2.2.2 _ kz_Ma) (S.2.2.2.2 _ kc_Ma_max) (Nat.le_of_ble_eq_true rfl) (Nat.le_of_ble_eq_true rfl) (Nat.le_of_ble_eq_true rfl) (Nat.le_of_ble_eq_true rfl) d_AL_grow1_49 ?_
      rw [show (if (10 : Int32) < nI (([] : List Nat).length + 1) then nI (([] : List Nat).length + 1) else 10) = 10 from by decide]
      refine wd_newq S k_AL_7 hE.2.1.2.2.2.1 hK hW 2 rfl (n := 10) (N' := 10) (by decide) (by decide) (by decide) (Nat.le_of_ble_eq_true rfl) (Nat.le_of_ble_eq_true rfl) d_AL_grow1_52 (fun q H hq w_1 ew_1 hW => ?_)
      have ha := wd_keep ew_1 (wd_neN ha hq) ha
      have cq : w_1 q = some (.inl (G.2.1 2, 10, .inr (.inr (.inr (.inr (fun _ => none)))))) := wd_here ew_1
      refine lv_dup_x1 hx hb d_AL_grow1_55 rfl rfl ?_
      refine wd_put S i_AL t_AL t_AL_ok n_AL hK hW ha rfl 0 (by decide) k_AL_9 rfl rfl rfl rfl (Nat.le_of_ble_eq_true rfl) d_AL_grow1_56 (fun H locs w_2 ew_2 hW => ?_)
      have cq := wd_keep ew_2 (wd_ne cq ha (by simp)) cq
      have ha : w_2 a = some (.inr (4, [.ref q, .int (nI ([] : List Nat).length), .int mo])) := wd_here ew_2
      refine W.eq (g2 := F0 m 59 ls [va_rf (some q)]) rfl ?_
      exact ct_qret S hr (by first | exact Or.inl ⟨_, rfl⟩ | exact Or.inr ⟨_, rfl⟩) hlocks hW (⟨q, 10, fun _ => none, rfl, hq, by decide, by decide, fun i hi => absurd hi (Nat.not_lt_zero i), by rw [ew_2, ew_1] <;> rfl⟩) (Nat.le_of_ble_eq_true rfl) (Nat.le_of_ble_eq_true rfl) d_AL_grow1_59
  · refine lv_aload_n hx hb d_AL_grow1_0 rfl (lv_at hl 0 rfl) ?_
    refine wd_get S i_AL hK hW ha rfl 0 (by decide) k_AL_9 rfl rfl d_AL_grow1_1 ?_
    refine wd_alen S hK hW 2 he rfl d_AL_grow1_4 ?_
    refine lv_topi (fun x2 ex2 => ?_)
    refine lv_istore_n (lv' := [(2, .int x2), (0, .ref a), (1, .int (nI (els.length + 1)))]) hx hb d_AL_grow1_5 rfl hl (by decide) rfl (fun ls hl => ?_)
    refine lv_iload_n hx hb d_AL_grow1_6 rfl (lv_at hl 0 rfl) ?_
    refine lv_if_gt (tgt := 20) hx hb d_AL_grow1_7 (by decide) (fun h7 => ?_) (fun h7 => ?_)
    · refine lv_iload_n hx hb d_AL_grow1_20 rfl (lv_at hl 0 rfl) ?_
      refine lv_iload_n hx hb d_AL_grow1_21 rfl (lv_at hl 2 rfl) ?_
      refine lv_iload_n hx hb d_AL_grow1_22 rfl (lv_at hl 0 rfl) ?_
      refine lv_isub hx hb d_AL_grow1_23 ?_
      refine lv_iload_n hx hb d_AL_grow1_24 rfl (lv_at hl 0 rfl) ?_
      refine lv_iconst (v := 1) hx hb d_AL_grow1_25 (by decide) ?_
      refine lv_ishr hx hb d_AL_grow1_26 ?_
      rw [show nI (els.length + 1) - x2 = 1 from by rw [ex2, pk_sub (by omega), show els.length + 1 - els.length = 1 by omega]; rfl, ex2]
      refine ct_goi hW (ct_runS (As := [.int (nI els.length), .int 1, .int (nI els.length >>> ((1 : Int32) &&& 31))]) (rest := []) S hE hW (c_As_newLength l G _ _ els.length (by omega)) kc_As_newLength kz_As k_AL_73 ks_As_newLength kd_As_newLength ⟨Nat.le_of_ble_eq_true rfl, Nat.le_of_ble_eq_true rfl⟩ hl.1 (Nat.le_of_ble_eq_true rfl) d_AL_grow1_27 ⟨Nat.le_of_ble_eq_true rfl, Nat.le_of_ble_eq_true rfl⟩) (fun v_5 u_3 H locs hp_4 hW => ?_)
      obtain ⟨hv1, hu_6⟩ := hp_4
      rw [hu_6] at hW
      rw [hv1]
      refine lv_topi (fun x3 ex3 => ?_)
      refine lv_istore_n (lv' := [(3, .int x3), (2, .int x2), (0, .ref a), (1, .int (nI (els.length + 1)))]) hx hb d_AL_grow1_30 rfl hl (by decide) rfl (fun ls hl => ?_)
      refine lv_aload_n hx hb d_AL_grow1_31 rfl (lv_at hl 2 rfl) ?_
      refine lv_aload_n hx hb d_AL_grow1_32 rfl (lv_at hl 2 rfl) ?_
      refine wd_get S i_AL hK hW ha rfl 0 (by decide) k_AL_9 rfl rfl d_AL_grow1_33 ?_
      refine lv_iload_n hx hb d_AL_grow1_36 rfl (lv_at hl 0 rfl) ?_
      rw [ex3]
      refine ct_goq hW (ct_runS (As := [.ref ed, .int (nI (els.length + max 1 (els.length / 2)))]) (rest := [.ref a]) S hE hW (c_Ar_copyOf2 l G _ _ ed els.length (els.length + max 1 (els.length / 2)) f he (by omega) (by omega) (fun i hi y hy => hob y (by rw [hf i hi] at hy; exact List.mem_of_getElem? hy))) kc_Ar_copyOf2 kz_Ar k_AL_66 ks_Ar_copyOf2 kd_Ar_copyOf2 ⟨Nat.le_of_ble_eq_true rfl, Nat.le_of_ble_eq_true rfl⟩ hl.1 (Nat.le_of_ble_eq_true rfl) d_AL_grow1_37 ⟨Nat.le_of_ble_eq_true rfl, Nat.le_of_ble_eq_true rfl⟩) (fun v_9 u_7 H locs hp_8 hW => ?_)
      obtain ⟨q, g, hv, hq, hu, hg⟩ := hp_8
      have ha := wd_keep hu (wd_neN ha hq) ha
      rw [hv]
      refine W.eq (g2 := F0 m 40 ls [.ref q, .ref a]) rfl ?_
      refine lv_dup_x1 hx hb d_AL_grow1_40 rfl rfl ?_
      refine wd_put S i_AL t_AL t_AL_ok n_AL hK hW ha rfl 0 (by decide) k_AL_9 rfl rfl rfl rfl (Nat.le_of_ble_eq_true rfl) d_AL_grow1_41 (fun H locs w_10 ew_10 hW => ?_)
      have ha : w_10 a = some (.inr (4, [.ref q, .int (nI els.length), .int mo])) := wd_here ew_10
      refine W.eq (g2 := F0 m 44 ls [va_rf (some q)]) rfl ?_
      exact ct_qret S hr (by first | exact Or.inl ⟨_, rfl⟩ | exact Or.inr ⟨_, rfl⟩) hlocks hW (⟨q, els.length + max 1 (els.length / 2), g, rfl, hq, by omega, by omega, fun i hi => (hg i hi).trans (hf i hi), by rw [ew_10, hu] <;> rfl⟩) (Nat.le_of_ble_eq_true rfl) (Nat.le_of_ble_eq_true rfl) d_AL_grow1_44
    · exact absurd (by rw [ex2]; exact nI_0 ▸ nI_lt hpos (by omega)) h7

set_option maxHeartbeats 4000000 in
set_option maxRecDepth 100000 in
/-- grow(), when the array is full -/
theorem c_AL_grow0 (l : Launch) (G : ev_G) (w : wd_M) (sz : Nat) (a ed : Nat) (els : List Nat) (mo : Int32) (ha : w a = some (.inr (4, [.ref ed, .int (nI els.length), .int mo]))) (he : (ed = G.2.2 0 ∧ els = []) ∨ ∃ f : Nat → Option Nat, w ed = some (.inl (G.2.1 2, els.length, .inr (.inr (.inr (.inr f))))) ∧ 0 < els.length ∧ ∀ i, i < els.length → f i = els[i]?) (hlen : els.length < 200) (hob : ∀ y ∈ els, ob_ w y) : ct_q l y_AL_grow0 b_AL_grow0 1 (some (FieldType.array (FieldType.object "java/lang/Object"))) (rm_ 4 1 300) G w sz [.ref a] (fun v u => ∃ (q cap2 : Nat) (g : Nat → Option Nat), v = some q ∧ w q = none ∧ els.length < cap2 ∧ cap2 ≤ 300 ∧ (∀ i, i < els.length → g i = els[i]?) ∧ u = va_up (va_up w q (some (.inl (G.2.1 2, cap2, .inr (.inr (.inr (.inr g)))))) ) a (some (.inr (4, [.ref q, .int (nI els.length), .int mo])))) := by
  refine ct_enter (by decide +kernel) (Nat.le_of_ble_eq_true rfl) ?_
  intro p_ e_ s m below meth c_ hsz S hr hlocks hname hE hW ls hl
  have S : CallFix p_ m c_ b_AL_grow0 1 s _ lw_good "java/util/ArrayList" := S
  have hx := S.1
  have hb := S.2.1
  have hK := hE.1
  have hl : lv_has ls 1 [(0, .ref a)] := hl
  refine lv_aload_n hx hb d_AL_grow0_0 rfl (lv_at hl 0 rfl) ?_
  refine lv_aload_n hx hb d_AL_grow0_1 rfl (lv_at hl 0 rfl) ?_
  refine wd_get S i_AL hK hW ha rfl 1 (by decide) k_AL_48 rfl rfl d_AL_grow0_2 ?_
  refine lv_iconst (v := 1) hx hb d_AL_grow0_5 (by decide) ?_
  refine lv_iadd hx hb d_AL_grow0_6 ?_
  rw [nI_1]
  refine ct_goq hW (ct_runV (As := [.int (nI (els.length + 1))]) (rest := []) (q := (R_AL, F_AL, 3)) S hE hW (c_AL_grow1 l G _ _ a ed els mo ha he hlen hob) ha rfl kc_AL_grow1 kz_AL k_AL_69 ki_AL_grow1 kv_AL_grow1 kd_AL_grow1 ⟨Nat.le_of_ble_eq_true rfl, Nat.le_of_ble_eq_true rfl⟩ hl.1 (Nat.le_of_ble_eq_true rfl) d_AL_grow0_7 ⟨Nat.le_of_ble_eq_true rfl, Nat.le_of_ble_eq_true rfl⟩) (fun v_3 u_1 H locs hp_2 hW => ?_)
  exact ct_qret S hr (by first | exact Or.inl ⟨_, rfl⟩ | exact Or.inr ⟨_, rfl⟩) hlocks hW (hp_2) (Nat.le_refl _) (Nat.le_refl _) d_AL_grow0_10

theorem al_put {els : List Nat} {g : Nat → Option Nat} {v : Nat} (hg : ∀ i, i < els.length → g i = els[i]?) : ∀ i, i < els.length + 1 → va_up g els.length (some v) i = (els ++ [v])[i]? := by
  intro i hi
  by_cases h : i = els.length
  · subst h
    rw [va_up_self]
    simp
  · rw [va_up_ne _ _ h, hg i (by omega), List.getElem?_append_left (by omega)]
/-- two writes at a, and at q between them -/
theorem up_4 {α : Type} (w : Nat → α) {a q : Nat} (n : q ≠ a) (x1 y1 x2 y2 : α) : va_up (va_up (va_up (va_up w q x1) a y1) q x2) a y2 = va_up (va_up w q x2) a y2 := by
  funext b
  by_cases h1 : b = a
  · subst h1
    simp [va_up]
  · by_cases h2 : b = q
    · subst h2
      simp [va_up, h1]
    · simp [va_up, h1, h2]

set_option maxHeartbeats 4000000 in
set_option maxRecDepth 100000 in
/-- add(v, elementData, size) -/
theorem c_AL_add3 (l : Launch) (G : ev_G) (w : wd_M) (sz : Nat) (a ed v : Nat) (els : List Nat) (mo : Int32) (ha : w a = some (.inr (4, [.ref ed, .int (nI els.length), .int mo]))) (he : ea_ G w ed els) (hlen : els.length < 200) (hob : ∀ y ∈ els, ob_ w y) (hv : ob_ w v) : ct_v l y_AL_add3 b_AL_add3 4 none (rm_ 5 1 300) G w sz [.ref a, .ref v, .ref ed, .int (nI els.length)] (fun u => ∃ (q cap : Nat) (g : Nat → Option Nat), (q = ed ∨ w q = none) ∧ els.length + 1 ≤ cap ∧ cap ≤ 1000 ∧ (∀ i, i < els.length + 1 → g i = (els ++ [v])[i]?) ∧ u = va_up (va_up w q (some (.inl (G.2.1 2, cap, .inr (.inr (.inr (.inr g)))))) ) a (some (.inr (4, [.ref q, .int (nI (els.length + 1)), .int mo])))) := by
  refine ct_enter (by decide +kernel) (Nat.le_of_ble_eq_true rfl) ?_
  intro p_ e_ s m below meth c_ hsz S hr hlocks hname hE hW ls hl
  have S : CallFix p_ m c_ b_AL_add3 4 s _ lw_good "java/util/ArrayList" := S
  have hx := S.1
  have hb := S.2.1
  have hK := hE.1
  have hl : lv_has ls 4 [(0, .ref a), (1, .ref v), (2, .ref ed), (3, .int (nI els.length))] := hl
  rcases he with ⟨rfl, rfl⟩ | ⟨cap, f, he, h1, h2, h3, hf⟩
  · refine lv_iload_n hx hb d_AL_add3_0 rfl (lv_at hl 3 rfl) ?_
    refine lv_aload_n hx hb d_AL_add3_1 rfl (lv_at hl 2 rfl) ?_
    refine va_tlen hx hb hE.2.2.2.1 hW.2.1 (v := 0) rfl d_AL_add3_2 ?_
    refine lv_icmp_ne (tgt := 11) hx hb d_AL_add3_3 (by decide) (fun h3 => ?_) (fun h3 => ?_)
    · exact absurd rfl h3
    · refine lv_aload_n hx hb d_AL_add3_6 rfl (lv_at hl 0 rfl) ?_
      refine ct_goq hW (ct_runV (As := []) (rest := []) (q := (R_AL, F_AL, 3)) S hE hW (c_AL_grow0 l G _ _ a (G.2.2 0) ([] : List Nat) mo ha (Or.inl ⟨rfl, rfl⟩) hlen hob) ha rfl kc_AL_grow0 kz_AL k_AL_129 ki_AL_grow0 kv_AL_grow0 kd_AL_grow0 ⟨Nat.le_of_ble_eq_true rfl, Nat.le_of_ble_eq_true rfl⟩ hl.1 (Nat.le_of_ble_eq_true rfl) d_AL_add3_7 ⟨Nat.le_of_ble_eq_true rfl, Nat.le_of_ble_eq_true rfl⟩) (fun v_3 u_1 H locs hp_2 hW => ?_)
      obtain ⟨q, cap2, g, hvq, hq, hc1, hc2, hg, hu⟩ := hp_2
      have hqa : q ≠ a := fun h => by rw [h] at hq; rw [hq] at ha; cases ha
      have hv : ob_ u_1 v := by obtain ⟨ci, fs, g1, g2⟩ := hv; refine ⟨ci, fs, ?_, g2⟩; rw [hu, va_up_ne _ _ (fun h => by rw [h] at g1; rw [g1] at ha; cases ha; simp at g2), va_up_ne _ _ (wd_neN g1 hq)]; exact g1
      have hes : u_1 q = some (.inl (G.2.1 2, cap2, .inr (.inr (.inr (.inr g))))) := by rw [hu, va_up_ne _ _ hqa]; exact va_up_self _ _ _
      have ha : u_1 a = some (.inr (4, [.ref q, .int (nI ([] : List Nat).length), .int mo])) := by rw [hu]; exact va_up_self _ _ _
      rw [hvq]
      refine W.eq (g2 := F0 m 10 ls [.ref q]) rfl ?_
      refine lv_astore_n (lv' := [(2, .ref q), (0, .ref a), (1, .ref v), (3, .int (nI ([] : List Nat).length))]) hx hb d_AL_add3_10 rfl hl (by decide) rfl (fun ls hl => ?_)
      refine lv_aload_n hx hb d_AL_add3_11 rfl (lv_at hl 0 rfl) ?_
      refine lv_iload_n hx hb d_AL_add3_12 rfl (lv_at hl 3 rfl) ?_
      refine lv_aload_n hx hb d_AL_add3_13 rfl (lv_at hl 2 rfl) ?_
      obtain ⟨ci, fs, r9, g1, g2, g3⟩ := ob_cast hE.2.1 hv
      refine wd_aast S hK hW 2 ci hes rfl g3 g1 g2 (vp_in_nI (by omega) (by omega)) d_AL_add3_14 (fun H locs w_4 ew_4 hW => ?_)
      have ha := wd_keep ew_4 (wd_ne ha hes (by simp)) ha
      refine lv_aload_n hx hb d_AL_add3_15 rfl (lv_at hl 1 rfl) ?_
      refine lv_iload_n hx hb d_AL_add3_16 rfl (lv_at hl 3 rfl) ?_
      refine lv_iconst (v := 1) hx hb d_AL_add3_17 (by decide) ?_
      refine lv_iadd hx hb d_AL_add3_18 ?_
      refine lv_topi (fun nsz ensz => ?_)
      refine wd_put S i_AL t_AL t_AL_ok n_AL hK hW ha rfl 1 (by decide) k_AL_48 rfl rfl rfl rfl (Nat.le_of_ble_eq_true rfl) d_AL_add3_19 (fun H locs w_5 ew_5 hW => ?_)
      have ha : w_5 a = some (.inr (4, [.ref q, .int nsz, .int mo])) := wd_here ew_5
      exact ct_vret S hr hlocks hW (⟨q, cap2, _, Or.inr hq, by omega, by omega, al_put hg, by rw [ew_5, ensz, ew_4, hu, ← nI_1, show (nI ([] : List Nat).length).toNatClampNeg = ([] : List Nat).length from nI_clamp (by omega)]; exact up_4 w hqa _ _ _ _⟩) (Nat.le_of_ble_eq_true rfl) (Nat.le_of_ble_eq_true rfl) d_AL_add3_22
  · refine lv_iload_n hx hb d_AL_add3_0 rfl (lv_at hl 3 rfl) ?_
    refine lv_aload_n hx hb d_AL_add3_1 rfl (lv_at hl 2 rfl) ?_
    refine wd_alen S hK hW 2 he rfl d_AL_add3_2 ?_
    refine lv_icmp_ne (tgt := 11) hx hb d_AL_add3_3 (by decide) (fun h3x => ?_) (fun h3x => ?_)
    · have hlt : els.length < cap := Nat.lt_of_le_of_ne h1 (fun q => h3x (by rw [q]))
      refine lv_aload_n hx hb d_AL_add3_11 rfl (lv_at hl 2 rfl) ?_
      refine lv_iload_n hx hb d_AL_add3_12 rfl (lv_at hl 3 rfl) ?_
      refine lv_aload_n hx hb d_AL_add3_13 rfl (lv_at hl 1 rfl) ?_
      obtain ⟨ci, fs, r9, g1, g2, g3⟩ := ob_cast hE.2.1 hv
      refine wd_aast S hK hW 2 ci he rfl g3 g1 g2 (vp_in_nI hlt (by omega)) d_AL_add3_14 (fun H locs w_6 ew_6 hW => ?_)
      have ha := wd_keep ew_6 (wd_ne ha he (by simp)) ha
      refine lv_aload_n hx hb d_AL_add3_15 rfl (lv_at hl 0 rfl) ?_
      refine lv_iload_n hx hb d_AL_add3_16 rfl (lv_at hl 3 rfl) ?_
      refine lv_iconst (v := 1) hx hb d_AL_add3_17 (by decide) ?_
      refine lv_iadd hx hb d_AL_add3_18 ?_
      refine lv_topi (fun nsz ensz => ?_)
      refine wd_put S i_AL t_AL t_AL_ok n_AL hK hW ha rfl 1 (by decide) k_AL_48 rfl rfl rfl rfl (Nat.le_of_ble_eq_true rfl) d_AL_add3_19 (fun H locs w_7 ew_7 hW => ?_)
      have ha : w_7 a = some (.inr (4, [.ref ed, .int nsz, .int mo])) := wd_here ew_7
      exact ct_vret S hr hlocks hW (⟨ed, cap, _, Or.inl rfl, by omega, by omega, al_put hf, by rw [ew_7, ensz, ew_6, ← nI_1, show (nI els.length).toNatClampNeg = els.length from nI_clamp (by omega)] <;> rfl⟩) (Nat.le_of_ble_eq_true rfl) (Nat.le_of_ble_eq_true rfl) d_AL_add3_22
    · have hce : els.length = cap := (nI_eq (by omega) (by omega)).mp h3x
      refine lv_aload_n hx hb d_AL_add3_6 rfl (lv_at hl 0 rfl) ?_
      refine ct_goq hW (ct_runV (As := []) (rest := []) (q := (R_AL, F_AL, 3)) S hE hW (c_AL_grow0 l G _ _ a ed els mo ha (Or.inr ⟨f, by rw [hce]; exact he, by omega, hf⟩) hlen hob) ha rfl kc_AL_grow0 kz_AL k_AL_129 ki_AL_grow0 kv_AL_grow0 kd_AL_grow0 ⟨Nat.le_of_ble_eq_true rfl, Nat.le_of_ble_eq_true rfl⟩ hl.1 (Nat.le_of_ble_eq_true rfl) d_AL_add3_7 ⟨Nat.le_of_ble_eq_true rfl, Nat.le_of_ble_eq_true rfl⟩) (fun v_10 u_8 H locs hp_9 hW => ?_)
      obtain ⟨q, cap2, g, hvq, hq, hc1, hc2, hg, hu⟩ := hp_9
      have hqa : q ≠ a := fun h => by rw [h] at hq; rw [hq] at ha; cases ha
      have hv : ob_ u_8 v := by obtain ⟨ci, fs, g1, g2⟩ := hv; refine ⟨ci, fs, ?_, g2⟩; rw [hu, va_up_ne _ _ (fun h => by rw [h] at g1; rw [g1] at ha; cases ha; simp at g2), va_up_ne _ _ (wd_neN g1 hq)]; exact g1
      have hes : u_8 q = some (.inl (G.2.1 2, cap2, .inr (.inr (.inr (.inr g))))) := by rw [hu, va_up_ne _ _ hqa]; exact va_up_self _ _ _
      have ha : u_8 a = some (.inr (4, [.ref q, .int (nI els.length), .int mo])) := by rw [hu]; exact va_up_self _ _ _
      rw [hvq]
      refine W.eq (g2 := F0 m 10 ls [.ref q]) rfl ?_
      refine lv_astore_n (lv' := [(2, .ref q), (0, .ref a), (1, .ref v), (3, .int (nI els.length))]) hx hb d_AL_add3_10 rfl hl (by decide) rfl (fun ls hl => ?_)
      refine lv_aload_n hx hb d_AL_add3_11 rfl (lv_at hl 0 rfl) ?_
      refine lv_iload_n hx hb d_AL_add3_12 rfl (lv_at hl 3 rfl) ?_
      refine lv_aload_n hx hb d_AL_add3_13 rfl (lv_at hl 2 rfl) ?_
      obtain ⟨ci, fs, r9, g1, g2, g3⟩ := ob_cast hE.2.1 hv
      refine wd_aast S hK hW 2 ci hes rfl g3 g1 g2 (vp_in_nI (by omega) (by omega)) d_AL_add3_14 (fun H locs w_11 ew_11 hW => ?_)
      have ha := wd_keep ew_11 (wd_ne ha hes (by simp)) ha
      refine lv_aload_n hx hb d_AL_add3_15 rfl (lv_at hl 1 rfl) ?_
      refine lv_iload_n hx hb d_AL_add3_16 rfl (lv_at hl 3 rfl) ?_
      refine lv_iconst (v := 1) hx hb d_AL_add3_17 (by decide) ?_
      refine lv_iadd hx hb d_AL_add3_18 ?_
      refine lv_topi (fun nsz ensz => ?_)
      refine wd_put S i_AL t_AL t_AL_ok n_AL hK hW ha rfl 1 (by decide) k_AL_48 rfl rfl rfl rfl (Nat.le_of_ble_eq_true rfl) d_AL_add3_19 (fun H locs w_12 ew_12 hW => ?_)
      have ha : w_12 a = some (.inr (4, [.ref q, .int nsz, .int mo])) := wd_here ew_12
      exact ct_vret S hr hlocks hW (⟨q, cap2, _, Or.inr hq, by omega, by omega, al_put hg, by rw [ew_12, ensz, ew_11, hu, ← nI_1, show (nI els.length).toNatClampNeg = els.length from nI_clamp (by omega)]; exact up_4 w hqa _ _ _ _⟩) (Nat.le_of_ble_eq_true rfl) (Nat.le_of_ble_eq_true rfl) d_AL_add3_22

theorem ob_up {w w1 : wd_M} {a y : Nat} {fs gs : List Value} (h : ob_ w y) (e1 : w1 = va_up w a (some (.inr (4, gs)))) (ha : w a = some (.inr (4, fs))) : ob_ w1 y := by
  obtain ⟨ci, hs, h1, h2⟩ := h
  refine ⟨ci, hs, wd_keep e1 (wd_ne h1 ha (fun q => ?_)) h1, h2⟩
  cases q
  simp at h2
theorem ea_up {G : ev_G} {w w1 : wd_M} {a ed : Nat} {els : List Nat} {x : Option va_E} (h : ea_ G w ed els) (e1 : w1 = va_up w a x) (n : ed ≠ a) : ea_ G w1 ed els := by
  rcases h with h | ⟨cap, f, h1, h2⟩
  · exact Or.inl h
  · exact Or.inr ⟨cap, f, wd_keep e1 n h1, h2⟩
/-- the array of a list isn't the list -/
theorem wd_ne_ea {G : ev_G} {A : Nat → Prop} {s : State} {H : Heap} {locs : List Loc} {w : wd_M} {a ed : Nat} {els : List Nat} {ci : Nat} {fs : List Value} (hE : ev_K G A s s.heap) (hW : wd_W G.1 ev_cl A w s.heap H locs) (ha : w a = some (.inr (ci, fs))) (he : ea_ G w ed els) : ed ≠ a := by
  rcases he with ⟨h, -⟩ | ⟨cap, f, h1, h2⟩
  · intro z
    exact hE.2.2.2.1.out (by rw [← h, z]; exact hW.1.inA ha)
  · exact wd_ne h1 ha (by simp)

set_option maxHeartbeats 4000000 in
set_option maxRecDepth 100000 in
/-- add(v) -/
theorem c_AL_add1 (l : Launch) (G : ev_G) (w : wd_M) (sz : Nat) (a ed v : Nat) (els : List Nat) (hal : al_ G w a ed els) (hlen : els.length < 200) (hob : ∀ y ∈ els, ob_ w y) (hv : ob_ w v) : ct_i l y_AL_add1 b_AL_add1 2 (some FieldType.boolean) (rm_ 6 1 300) G w sz [.ref a, .ref v] (fun r u => r = 1 ∧ ∃ q : Nat, (q = ed ∨ w q = none) ∧ al_ G u a q (els ++ [v]) ∧ u q ≠ none ∧ (∀ x, x ≠ a → x ≠ q → u x = w x)) := by
  refine ct_enter (by decide +kernel) (Nat.le_of_ble_eq_true rfl) ?_
  intro p_ e_ s m below meth c_ hsz S hr hlocks hname hE hW ls hl
  have S : CallFix p_ m c_ b_AL_add1 2 s _ lw_good "java/util/ArrayList" := S
  have hx := S.1
  have hb := S.2.1
  have hK := hE.1
  have hl : lv_has ls 2 [(0, .ref a), (1, .ref v)] := hl
  obtain ⟨mo, ha, he⟩ := hal
  have hW0 := hW
  have ha0 := ha
  refine lv_aload_n hx hb d_AL_add1_0 rfl (lv_at hl 0 rfl) ?_
  refine lv_dup hx hb d_AL_add1_1 rfl ?_
  refine wd_getS S i_AL hK hW ha rfl 2 (by decide) k_AL_63 km_AL_modCount rfl d_AL_add1_2 ?_
  refine lv_iconst (v := 1) hx hb d_AL_add1_5 (by decide) ?_
  refine lv_iadd hx hb d_AL_add1_6 ?_
  refine lv_topi (fun mo1 emo1 => ?_)
  refine wd_putS S i_AL t_AL t_AL_ok n_AL hK hW ha rfl 2 (by decide) k_AL_63 km_AL_modCount rfl rfl rfl (Nat.le_of_ble_eq_true rfl) d_AL_add1_7 (fun H locs w_1 emoW hW => ?_)
  have ha : w_1 a = some (.inr (4, [.ref ed, .int (nI els.length), .int mo1])) := wd_here emoW
  refine lv_aload_n hx hb d_AL_add1_10 rfl (lv_at hl 0 rfl) ?_
  refine lv_aload_n hx hb d_AL_add1_11 rfl (lv_at hl 1 rfl) ?_
  refine lv_aload_n hx hb d_AL_add1_12 rfl (lv_at hl 0 rfl) ?_
  refine wd_get S i_AL hK hW ha rfl 0 (by decide) k_AL_9 rfl rfl d_AL_add1_13 ?_
  refine lv_aload_n hx hb d_AL_add1_16 rfl (lv_at hl 0 rfl) ?_
  refine wd_get S i_AL hK hW ha rfl 1 (by decide) k_AL_48 rfl rfl d_AL_add1_17 ?_
  refine ct_gov hW (ct_runV (As := [.ref v, .ref ed, .int (nI els.length)]) (rest := []) (q := (R_AL, F_AL, 3)) S hE hW (c_AL_add3 l G _ _ a ed v els mo1 ha (ea_up he emoW (wd_ne_ea hE hW0 ha0 he)) hlen (fun y hy => ob_up (hob y hy) emoW ha0) (ob_up hv emoW ha0)) ha rfl kc_AL_add3 kz_AL k_AL_131 ki_AL_add3 kv_AL_add3 kd_AL_add3 ⟨Nat.le_of_ble_eq_true rfl, Nat.le_of_ble_eq_true rfl⟩ hl.1 (Nat.le_of_ble_eq_true rfl) d_AL_add1_20 ⟨Nat.le_of_ble_eq_true rfl, Nat.le_of_ble_eq_true rfl⟩) (fun u_2 H locs hp_3 hW => ?_)
  obtain ⟨q, cap, g, hq, hc1, hc2, hg, hu⟩ := hp_3
  refine lv_iconst (v := 1) hx hb d_AL_add1_23 (by decide) ?_
  have hqa : q ≠ a := hq.elim (fun h => by rw [h]; exact wd_ne_ea hE hW0 ha0 he) (fun h z => by rw [z, wd_here emoW] at h; cases h)
  exact ct_iret S hr rfl hlocks hW (⟨rfl, q, hq.imp id (fun h => by rw [emoW, va_up_ne _ _ hqa] at h; exact h), ⟨mo1, by rw [hu, va_up_self, List.length_append]; rfl, Or.inr ⟨cap, g, by rw [hu, va_up_ne _ _ hqa, va_up_self], by rw [List.length_append]; exact hc1, by omega, hc2, fun i hi => hg i (by rw [List.length_append] at hi; exact hi)⟩⟩, by rw [hu, va_up_ne _ _ hqa, va_up_self]; exact Option.some_ne_none _, fun x h1 h2 => by rw [hu, va_up_ne _ _ h1, va_up_ne _ _ h2, emoW, va_up_ne _ _ h1]⟩) (Nat.le_refl _) (Nat.le_refl _) d_AL_add1_24
end
section
/-! ARRAYLIST: remove. ARRAYS: copyOf, copyOfRange, fill of ints. -/

theorem nI_pred2 {k n : Nat} (h : k < n) : nI n - 1 = nI (n - 1) := by
  obtain ⟨j, rfl⟩ : ∃ j, n = j + 1 := ⟨n - 1, by omega⟩
  rw [nI_pred]
  rfl
theorem al_rm_last {els : List Nat} {f : Nat → Option Nat} {k : Nat} (hf : ∀ i, i < els.length → f i = els[i]?) (hk : k + 1 = els.length) : ∀ i, i < (els.eraseIdx k).length → va_up f (els.length - 1) none i = (els.eraseIdx k)[i]? := by
  intro i hi
  rw [List.length_eraseIdx_of_lt (by omega)] at hi
  rw [va_up_ne _ _ (by omega), hf i (by omega), List.getElem?_eraseIdx_of_lt (by omega)]
theorem al_rm_mid {els : List Nat} {f : Nat → Option Nat} {k : Nat} (hf : ∀ i, i < els.length → f i = els[i]?) (hk : k + 1 < els.length) : ∀ i, i < (els.eraseIdx k).length → va_up (va_cpy f f (k + 1) k (els.length - 1 - k)) (els.length - 1) none i = (els.eraseIdx k)[i]? := by
  intro i hi
  rw [List.length_eraseIdx_of_lt (by omega)] at hi
  rw [va_up_ne _ _ (by omega)]
  by_cases h : i < k
  · rw [pk_cpy_out (Or.inl h), hf i (by omega), List.getElem?_eraseIdx_of_lt h]
  · rw [pk_cpy_in (by omega) (by omega), hf _ (by omega), List.getElem?_eraseIdx_of_ge (by omega)]
    congr 1
    omega
theorem up_rm {α : Type} (w : Nat → α) {a q : Nat} (n : a ≠ q) (x1 x2 y : α) : va_up (va_up (va_up w a x1) a x2) q y = va_up (va_up w a x2) q y := by rw [bx_uu]
theorem up_rm2 {α : Type} (w : Nat → α) {a q : Nat} (n : a ≠ q) (x1 y1 x2 y2 : α) : va_up (va_up (va_up (va_up w a x1) q y1) a x2) q y2 = va_up (va_up w a x2) q y2 := up_4 w n x1 y1 x2 y2

theorem fl_inv {f : Nat → Int32} {i : Nat} {x : Int32} (h : ∀ j, j < i → f j = x) : ∀ j, j < i + 1 → upd f i x j = x := by
  intro j hj
  by_cases hji : j = i
  · rw [hji, pk_us]
  · rw [pk_un hji]
    exact h j (by omega)

set_option maxHeartbeats 4000000 in
set_option maxRecDepth 100000 in
/-- fastRemove(es, k) -/
theorem c_AL_fastRemove (l : Launch) (G : ev_G) (w : wd_M) (sz : Nat) (a ed cap k : Nat) (els : List Nat) (mo : Int32) (f : Nat → Option Nat) (ha : w a = some (.inr (4, [.ref ed, .int (nI els.length), .int mo]))) (he : w ed = some (.inl (G.2.1 2, cap, .inr (.inr (.inr (.inr f)))))) (h1 : els.length ≤ cap) (h3 : cap ≤ 1000) (hf : ∀ i, i < els.length → f i = els[i]?) (hk : k < els.length) (hob : ∀ y ∈ els, ob_ w y) : ct_v l y_AL_fastRemove b_AL_fastRemove 4 none (rm_ 1 0 0) G w sz [.ref a, .ref ed, .int (nI k)] (fun u => ∃ (mo2 : Int32) (g : Nat → Option Nat), (∀ i, i < (els.eraseIdx k).length → g i = (els.eraseIdx k)[i]?) ∧ u = va_up (va_up w a (some (.inr (4, [.ref ed, .int (nI (els.length - 1)), .int mo2])))) ed (some (.inl (G.2.1 2, cap, .inr (.inr (.inr (.inr g))))))) := by
  refine ct_enter (by decide +kernel) (Nat.le_of_ble_eq_true rfl) ?_
  intro p_ e_ s m below meth c_ hsz S hr hlocks hname hE hW ls hl
  have S : CallFix p_ m c_ b_AL_fastRemove 4 s _ lw_good "java/util/ArrayList" := S
  have hx := S.1
  have hb := S.2.1
  have hK := hE.1
  have hl : lv_has ls 4 [(0, .ref a), (1, .ref ed), (2, .int (nI k))] := hl
  have ha0 := ha
  have he0 := he
  refine lv_aload_n hx hb d_AL_fastRemove_0 rfl (lv_at hl 0 rfl) ?_
  refine lv_dup hx hb d_AL_fastRemove_1 rfl ?_
  refine wd_getS S i_AL hK hW ha rfl 2 (by decide) k_AL_63 km_AL_modCount rfl d_AL_fastRemove_2 ?_
  refine lv_iconst (v := 1) hx hb d_AL_fastRemove_5 (by decide) ?_
  refine lv_iadd hx hb d_AL_fastRemove_6 ?_
  refine lv_topi (fun mo1 emo1 => ?_)
  refine wd_putS S i_AL t_AL t_AL_ok n_AL hK hW ha rfl 2 (by decide) k_AL_63 km_AL_modCount rfl rfl rfl (Nat.le_of_ble_eq_true rfl) d_AL_fastRemove_7 (fun H locs w_1 ew_1 hW => ?_)
  have he := wd_keep ew_1 (wd_ne he ha (by simp)) he
  have ha : w_1 a = some (.inr (4, [.ref ed, .int (nI els.length), .int mo1])) := wd_here ew_1
  refine lv_aload_n hx hb d_AL_fastRemove_10 rfl (lv_at hl 0 rfl) ?_
  refine wd_get S i_AL hK hW ha rfl 1 (by decide) k_AL_48 rfl rfl d_AL_fastRemove_11 ?_
  refine lv_iconst (v := 1) hx hb d_AL_fastRemove_14 (by decide) ?_
  refine lv_isub hx hb d_AL_fastRemove_15 ?_
  refine lv_topi (fun n3 en3 => ?_)
  rw [nI_pred2 hk] at en3
  refine lv_dup hx hb d_AL_fastRemove_16 rfl ?_
  refine lv_istore_n (lv' := [(3, .int n3), (0, .ref a), (1, .ref ed), (2, .int (nI k))]) hx hb d_AL_fastRemove_17 rfl hl (by decide) rfl (fun ls hl => ?_)
  refine lv_iload_n hx hb d_AL_fastRemove_18 rfl (lv_at hl 3 rfl) ?_
  refine lv_icmp_le (tgt := 34) hx hb d_AL_fastRemove_19 (by decide) (fun h19 => ?_) (fun h19 => ?_)
  · have hkl : k + 1 = els.length := by rw [en3] at h19; have h5 := (nI_leI (by omega) (by omega)).mp h19; omega
    refine lv_aload_n hx hb d_AL_fastRemove_34 rfl (lv_at hl 2 rfl) ?_
    refine lv_aload_n hx hb d_AL_fastRemove_35 rfl (lv_at hl 1 rfl) ?_
    refine lv_iload_n hx hb d_AL_fastRemove_36 rfl (lv_at hl 0 rfl) ?_
    refine lv_dup_x1 hx hb d_AL_fastRemove_37 rfl rfl ?_
    refine wd_put S i_AL t_AL t_AL_ok n_AL hK hW ha rfl 1 (by decide) k_AL_48 rfl rfl rfl rfl (Nat.le_of_ble_eq_true rfl) d_AL_fastRemove_38 (fun H locs w_2 ew_2 hW => ?_)
    have he := wd_keep ew_2 (wd_ne he ha (by simp)) he
    have ha : w_2 a = some (.inr (4, [.ref ed, .int n3, .int mo1])) := wd_here ew_2
    refine lv_null hx hb d_AL_fastRemove_41 ?_
    refine wd_aastN S hK hW 2 he rfl (by rw [en3]; exact vp_in_nI (by omega) (by omega)) d_AL_fastRemove_42 (fun H locs w_3 ew_3 hW => ?_)
    have hae : a ≠ ed := wd_ne ha0 he0 (by simp)
    exact ct_vret S hr hlocks hW (⟨mo1, va_up f n3.toNatClampNeg none, by rw [en3, nI_clamp (by omega)]; exact al_rm_last hf hkl, by rw [ew_3, ew_2, ew_1, en3]; exact up_rm _ hae _ _ _⟩) (Nat.le_refl _) (Nat.le_refl _) d_AL_fastRemove_43
  · have hkl : k + 1 < els.length := by rw [en3] at h19; have h5 : ¬ els.length - 1 ≤ k := fun q => h19 ((nI_leI (a := els.length - 1) (b := k) (by omega) (by omega)).mpr q); omega
    refine lv_aload_n hx hb d_AL_fastRemove_22 rfl (lv_at hl 2 rfl) ?_
    refine lv_iload_n hx hb d_AL_fastRemove_23 rfl (lv_at hl 3 rfl) ?_
    refine lv_iconst (v := 1) hx hb d_AL_fastRemove_24 (by decide) ?_
    refine lv_iadd hx hb d_AL_fastRemove_25 ?_
    refine lv_aload_n hx hb d_AL_fastRemove_26 rfl (lv_at hl 2 rfl) ?_
    refine lv_iload_n hx hb d_AL_fastRemove_27 rfl (lv_at hl 3 rfl) ?_
    refine lv_iload_n hx hb d_AL_fastRemove_28 rfl (lv_at hl 0 rfl) ?_
    refine lv_iload_n hx hb d_AL_fastRemove_29 rfl (lv_at hl 3 rfl) ?_
    refine lv_isub hx hb d_AL_fastRemove_30 ?_
    rw [show nI k + 1 = nI (k + 1) from nI_1 k, show n3 - nI k = nI (els.length - 1 - k) from by rw [en3, pk_sub (by omega)]]
    refine wd_copyM S hl.1 k_AL_112 kn_Sy_arraycopy ks_Sy_arraycopy kz_Sy hK hW 2 he he rfl (nI_pos (by omega)) (nI_pos (by omega)) (nI_pos (by omega)) (by rw [nI_clamp (by omega), nI_clamp (by omega)]; omega) (by rw [nI_clamp (by omega), nI_clamp (by omega)]; omega) (fun i hi y hy => ?_) (Nat.le_of_ble_eq_true rfl) (Nat.le_of_ble_eq_true rfl) d_AL_fastRemove_31 (fun H locs w_4 ew_4 hW => ?_)
    · rw [nI_clamp (by omega)] at hi hy
      exact ob_cast hE.2.1 (ob_up (hob y (by rw [hf _ (by omega)] at hy; exact List.mem_of_getElem? hy)) ew_1 ha0)
    rw [nI_clamp (by omega), nI_clamp (by omega), nI_clamp (by omega)] at ew_4
    have ha := wd_keep ew_4 (wd_ne ha he (by simp)) ha
    have he : w_4 ed = some (.inl (G.2.1 2, cap, .inr (.inr (.inr (.inr (va_cpy f f (k + 1) k (els.length - 1 - k))))))) := wd_here ew_4
    refine lv_aload_n hx hb d_AL_fastRemove_34 rfl (lv_at hl 2 rfl) ?_
    refine lv_aload_n hx hb d_AL_fastRemove_35 rfl (lv_at hl 1 rfl) ?_
    refine lv_iload_n hx hb d_AL_fastRemove_36 rfl (lv_at hl 0 rfl) ?_
    refine lv_dup_x1 hx hb d_AL_fastRemove_37 rfl rfl ?_
    refine wd_put S i_AL t_AL t_AL_ok n_AL hK hW ha rfl 1 (by decide) k_AL_48 rfl rfl rfl rfl (Nat.le_of_ble_eq_true rfl) d_AL_fastRemove_38 (fun H locs w_5 ew_5 hW => ?_)
    have he := wd_keep ew_5 (wd_ne he ha (by simp)) he
    have ha : w_5 a = some (.inr (4, [.ref ed, .int n3, .int mo1])) := wd_here ew_5
    refine lv_null hx hb d_AL_fastRemove_41 ?_
    refine wd_aastN S hK hW 2 he rfl (by rw [en3]; exact vp_in_nI (by omega) (by omega)) d_AL_fastRemove_42 (fun H locs w_6 ew_6 hW => ?_)
    have hae : a ≠ ed := wd_ne ha0 he0 (by simp)
    exact ct_vret S hr hlocks hW (⟨mo1, va_up (va_cpy f f (k + 1) k (els.length - 1 - k)) n3.toNatClampNeg none, by rw [en3, nI_clamp (by omega)]; exact al_rm_mid hf hkl, by rw [ew_6, ew_5, ew_4, ew_1, en3]; exact up_rm2 _ hae _ _ _ _⟩) (Nat.le_refl _) (Nat.le_refl _) d_AL_fastRemove_43

theorem up_dom {w : wd_M} {a x : Nat} {y z : va_E} (ha : w a = some z) : va_up w a (some y) x = none ↔ w x = none := by
  by_cases h : x = a
  · subst h
    rw [va_up_self, ha]
    simp
  · rw [va_up_ne _ _ h]
theorem up_dom2 {w : wd_M} {a b x : Nat} {y1 y2 z1 z2 : va_E} (ha : w a = some z1) (hb : w b = some z2) : va_up (va_up w a (some y1)) b (some y2) x = none ↔ w x = none := by
  by_cases h : x = b
  · subst h
    rw [va_up_self, hb]
    simp
  · rw [va_up_ne _ _ h]
    exact up_dom ha

set_option maxHeartbeats 4000000 in
set_option maxRecDepth 100000 in
/-- remove(k), in range -/
theorem c_AL_remove (l : Launch) (G : ev_G) (w : wd_M) (sz : Nat) (a ed k : Nat) (els : List Nat) (hal : al_ G w a ed els) (hk : k < els.length) (hob : ∀ y ∈ els, ob_ w y) : ct_q l y_AL_remove b_AL_remove 4 (some (FieldType.object "java/lang/Object")) (rm_ 2 0 0) G w sz [.ref a, .int (nI k)] (fun _ u => al_ G u a ed (els.eraseIdx k) ∧ (∀ x, x ≠ a → x ≠ ed → u x = w x) ∧ ∀ x, u x = none ↔ w x = none) := by
  refine ct_enter (by decide +kernel) (Nat.le_of_ble_eq_true rfl) ?_
  intro p_ e_ s m below meth c_ hsz S hr hlocks hname hE hW ls hl
  have S : CallFix p_ m c_ b_AL_remove 4 s _ lw_good "java/util/ArrayList" := S
  have hx := S.1
  have hb := S.2.1
  have hK := hE.1
  have hl : lv_has ls 4 [(0, .ref a), (1, .int (nI k))] := hl
  obtain ⟨mo, ha, he⟩ := hal
  rcases he with ⟨-, rfl⟩ | ⟨cap, f, he, h1, h2, h3, hf⟩
  · exact absurd hk (Nat.not_lt_zero k)
  refine lv_iload_n hx hb d_AL_remove_0 rfl (lv_at hl 1 rfl) ?_
  refine lv_aload_n hx hb d_AL_remove_1 rfl (lv_at hl 0 rfl) ?_
  refine wd_get S i_AL hK hW ha rfl 1 (by decide) k_AL_48 rfl rfl d_AL_remove_2 ?_
  refine ct_goi hW (ct_runS (As := [.int (nI k), .int (nI els.length)]) (rest := []) S hE hW (c_Ob_checkIndex l G _ _ (nI k) (nI els.length) (nI_pos (by omega)) (nI_ge hk (by omega))) kc_Ob_checkIndex kz_Ob k_AL_118 ks_Ob_checkIndex kd_Ob_checkIndex ⟨Nat.le_of_ble_eq_true rfl, Nat.le_of_ble_eq_true rfl⟩ hl.1 (Nat.le_of_ble_eq_true rfl) d_AL_remove_5 ⟨Nat.le_of_ble_eq_true rfl, Nat.le_of_ble_eq_true rfl⟩) (fun v_3 u_1 H locs hp_2 hW => ?_)
  obtain ⟨hv1, hu_4⟩ := hp_2
  rw [hu_4] at hW
  refine lv_pop hx hb d_AL_remove_8 rfl ?_
  refine lv_aload_n hx hb d_AL_remove_9 rfl (lv_at hl 0 rfl) ?_
  refine wd_get S i_AL hK hW ha rfl 0 (by decide) k_AL_9 rfl rfl d_AL_remove_10 ?_
  refine lv_astore_n (lv' := [(2, .ref ed), (0, .ref a), (1, .int (nI k))]) hx hb d_AL_remove_13 rfl hl (by decide) rfl (fun ls hl => ?_)
  refine lv_aload_n hx hb d_AL_remove_14 rfl (lv_at hl 0 rfl) ?_
  refine lv_iload_n hx hb d_AL_remove_15 rfl (lv_at hl 2 rfl) ?_
  refine wd_aald S hK hW 2 he rfl (vp_in_nI (by omega) (by omega)) d_AL_remove_16 ?_
  obtain ⟨y, hy⟩ : ∃ y, f k = some y := ⟨els[k], by rw [hf k hk]; exact List.getElem?_eq_getElem hk⟩
  rw [nI_clamp (by omega), hy]
  refine W.eq (g2 := F0 m 17 ls [.ref y]) rfl ?_
  refine lv_astore_n (lv' := [(3, .ref y), (2, .ref ed), (0, .ref a), (1, .int (nI k))]) hx hb d_AL_remove_17 rfl hl (by decide) rfl (fun ls hl => ?_)
  refine lv_aload_n hx hb d_AL_remove_18 rfl (lv_at hl 2 rfl) ?_
  refine lv_aload_n hx hb d_AL_remove_19 rfl (lv_at hl 1 rfl) ?_
  refine lv_iload_n hx hb d_AL_remove_20 rfl (lv_at hl 3 rfl) ?_
  refine ct_gov hW (ct_runV (As := [.ref ed, .int (nI k)]) (rest := []) (q := (R_AL, F_AL, 3)) S hE hW (c_AL_fastRemove l G _ _ a ed cap k els mo f ha he h1 h3 hf hk hob) ha rfl kc_AL_fastRemove kz_AL k_AL_144 ki_AL_fastRemove kv_AL_fastRemove kd_AL_fastRemove ⟨Nat.le_of_ble_eq_true rfl, Nat.le_of_ble_eq_true rfl⟩ hl.1 (Nat.le_of_ble_eq_true rfl) d_AL_remove_21 ⟨Nat.le_of_ble_eq_true rfl, Nat.le_of_ble_eq_true rfl⟩) (fun u_5 H locs hp_6 hW => ?_)
  obtain ⟨mo2, g, hg, hu⟩ := hp_6
  refine lv_aload_n hx hb d_AL_remove_24 rfl (lv_at hl 0 rfl) ?_
  refine W.eq (g2 := F0 m 25 ls [va_rf (some y)]) rfl ?_
  have hae : a ≠ ed := wd_ne ha he (by simp)
  have hle : (els.eraseIdx k).length = els.length - 1 := List.length_eraseIdx_of_lt hk
  exact ct_qret S hr (by first | exact Or.inl ⟨_, rfl⟩ | exact Or.inr ⟨_, rfl⟩) hlocks hW (⟨⟨mo2, by rw [hu, va_up_ne _ _ hae, va_up_self, hle], Or.inr ⟨cap, g, by rw [hu, va_up_self], by omega, by omega, h3, hg⟩⟩, fun x z1 z2 => by rw [hu, va_up_ne _ _ z2, va_up_ne _ _ z1], fun x => by rw [hu]; exact up_dom2 ha he⟩) (Nat.le_refl _) (Nat.le_refl _) d_AL_remove_25

set_option maxHeartbeats 4000000 in
set_option maxRecDepth 100000 in
/-- the loop of fill -/
theorem lo_Ar_fill {p_ : Program} {l : Launch} {e_ : Env} {s : State} {m : MethodId} {args : Array Value} {below : List Frame} {meth : Method} {c_ : Code} {Q : State → Prop} {G : ev_G} {A : Nat → Prop} (S : CallFix p_ m c_ b_Ar_fill 4 s args lw_good "java/util/Arrays") (hE : ev_K G A s s.heap) {w : wd_M} {a n : Nat} {x : Int32} (hn : n ≤ 1000) (kk : ∀ (f : Nat → Int32) (w1 : wd_M) (H : Heap) (locs : List Loc) (ls : Array Slot), (∀ j, j < n → f j = x) → w1 = va_up w a (some (.inl (G.2.1 0, n, .inl f))) → wd_W G.1 ev_cl A w1 s.heap H locs → lv_has ls 4 [(0, .ref a), (1, .int x), (3, .int (nI n))] → W p_ l e_ (rm_ 0 0 0) s m args below meth c_ H locs 0 0 Q (F0 m 20 ls [])) :
    ∀ (fu : Nat) (i : Nat) (xi : Int32) (f : Nat → Int32) (w1 : wd_M) (H : Heap) (locs : List Loc) (ls : Array Slot), n < i + fu → i ≤ n → xi = nI i → (∀ j, j < i → f j = x) → w1 = va_up w a (some (.inl (G.2.1 0, n, .inl f))) → wd_W G.1 ev_cl A w1 s.heap H locs → lv_has ls 4 [(0, .ref a), (1, .int x), (2, .int xi), (3, .int (nI n))] → W p_ l e_ (rm_ 0 0 0) s m args below meth c_ H locs 0 0 Q (F0 m 5 ls []) := by
  have hx := S.1
  have hb := S.2.1
  have hK := hE.1
  intro fu
  induction fu with
  | zero =>
    intro i xi f w1 H locs ls hfu hi exi hinv ew hW hl
    exact absurd hfu (by omega)
  | succ fu ih =>
    intro i xi f w1 H locs ls hfu hi exi hinv ew hW hl
    have ha := wd_here ew
    refine lv_iload_n hx hb d_Ar_fill_5 rfl (lv_at hl 2 rfl) ?_
    refine lv_iload_n hx hb d_Ar_fill_6 rfl (lv_at hl 3 rfl) ?_
    refine lv_icmp_ge (tgt := 20) hx hb d_Ar_fill_7 (by decide) (fun h7 => ?_) (fun h7 => ?_)
    · exact kk f w1 H locs ls (fun j hj => hinv j (by rw [exi] at h7; have := (nI_leI (by omega) (by omega)).mp h7; omega)) ew hW (lv_sub hl [0, 1, 3] rfl)
    · have hlt : i < n := by rw [exi] at h7; exact Nat.lt_of_not_le (fun q => h7 (nI_le q (by omega)))
      refine lv_aload_n hx hb d_Ar_fill_10 rfl (lv_at hl 0 rfl) ?_
      refine lv_iload_n hx hb d_Ar_fill_11 rfl (lv_at hl 2 rfl) ?_
      refine lv_iload_n hx hb d_Ar_fill_12 rfl (lv_at hl 1 rfl) ?_
      have hin : vp_in xi n := by rw [exi]; exact vp_in_nI hlt (by omega)
      refine wd_iast S hK hW 0 ha rfl hin d_Ar_fill_13 (fun H locs w_1 ew_1 hW => ?_)
      have ha : w_1 a = some (.inl (G.2.1 0, n, .inl (upd f (xi : Int32).toNatClampNeg x))) := wd_here ew_1
      obtain ⟨xi2, exi2⟩ : ∃ y : Int32, y = xi + 1 := ⟨_, rfl⟩
      refine lv_iinc (v := xi2) (lv' := [(2, .int xi2), (0, .ref a), (1, .int x), (3, .int (nI n))]) hx hb d_Ar_fill_14 hl (k := 2) rfl (by rw [exi2]; rfl) (by decide) rfl (fun ls hl => ?_)
      refine lv_goto (tgt := 5) hx hb d_Ar_fill_17 (by decide) ?_
      exact ih (i + 1) xi2 (upd f xi.toNatClampNeg x) _ _ _ _ (by omega) hlt (by rw [exi2, exi]; exact nI_1 i) (by rw [exi, nI_clamp (by omega)]; exact fl_inv hinv) (by rw [ew_1, ew]; exact bx_uu _ _ _ _) hW (lv_sub hl [1, 2, 0, 3] rfl)

theorem up_id {w : wd_M} {a : Nat} {x : va_E} (h : w a = some x) : w = va_up w a (some x) := by
  funext b
  by_cases hb : b = a
  · subst hb
    rw [va_up_self]
    exact h
  · rw [va_up_ne _ _ hb]

set_option maxHeartbeats 4000000 in
set_option maxRecDepth 100000 in
/-- fill(a, x) -/
theorem c_Ar_fill (l : Launch) (G : ev_G) (w : wd_M) (sz : Nat) (a n : Nat) (x : Int32) (f : Nat → Int32) (ha : w a = some (.inl (G.2.1 0, n, .inl f))) (hn : n ≤ 1000) : ct_v l y_Ar_fill b_Ar_fill 4 none (rm_ 0 0 0) G w sz [.ref a, .int x] (fun u => ∃ g : Nat → Int32, (∀ j, j < n → g j = x) ∧ u = va_up w a (some (.inl (G.2.1 0, n, .inl g)))) := by
  refine ct_enter (by decide +kernel) (Nat.le_of_ble_eq_true rfl) ?_
  intro p_ e_ s m below meth c_ hsz S hr hlocks hname hE hW ls hl
  have S : CallFix p_ m c_ b_Ar_fill 4 s _ lw_good "java/util/Arrays" := S
  have hx := S.1
  have hb := S.2.1
  have hK := hE.1
  have hl : lv_has ls 4 [(0, .ref a), (1, .int x)] := hl
  refine lv_iconst (v := 0) hx hb d_Ar_fill_0 (by decide) ?_
  refine lv_istore_n (lv' := [(2, .int 0), (0, .ref a), (1, .int x)]) hx hb d_Ar_fill_1 rfl hl (by decide) rfl (fun ls hl => ?_)
  refine lv_aload_n hx hb d_Ar_fill_2 rfl (lv_at hl 1 rfl) ?_
  refine wd_alen S hK hW 0 ha rfl d_Ar_fill_3 ?_
  refine lv_topi (fun n3 en3 => ?_)
  refine lv_istore_n (lv' := [(3, .int n3), (2, .int 0), (0, .ref a), (1, .int x)]) hx hb d_Ar_fill_4 rfl hl (by decide) rfl (fun ls hl => ?_)
  rw [en3] at hl
  refine lo_Ar_fill S hE (w := w) (a := a) (n := n) (x := x) hn (fun f w1 H locs ls hinv ew hW hl => ?_) (n + 1) 0 0 f w _ _ _ (by omega) (Nat.zero_le n) nI_0.symm (fun j hj => absurd hj (Nat.not_lt_zero j)) ?_ hW (lv_sub hl [2, 3, 1, 0] rfl)
  · exact ct_vret S hr hlocks hW (⟨f, hinv, ew⟩) (Nat.le_refl _) (Nat.le_refl _) d_Ar_fill_20
  · exact up_id ha

theorem if_ltk {k n : Nat} (h : k ≤ n) (hn : n < 2 ^ 31) : (if nI k < nI n then nI k else nI n) = nI k := by
  split
  · rfl
  · rename_i h9
    exact (nI_eq hn (by omega)).mpr (Nat.le_antisymm (Nat.le_of_not_lt fun q => h9 (nI_lt q hn)) h)

set_option maxHeartbeats 4000000 in
set_option maxRecDepth 100000 in
/-- copyOf(ints, k) -/
theorem c_Ar_copyOfI (l : Launch) (G : ev_G) (w : wd_M) (sz : Nat) (a n k : Nat) (f : Nat → Int32) (ha : w a = some (.inl (G.2.1 0, n, .inl f))) (hk : k ≤ n) (hn : n ≤ 40) : ct_q l y_Ar_copyOfI b_Ar_copyOfI 3 (some (FieldType.array FieldType.int)) (rm_ 1 1 40) G w sz [.ref a, .int (nI k)] (fun v u => ∃ (q : Nat) (g : Nat → Int32), v = some q ∧ w q = none ∧ u = va_up w q (some (.inl (G.2.1 0, k, .inl g))) ∧ ∀ i, i < k → g i = f i) := by
  refine ct_enter (by decide +kernel) (Nat.le_of_ble_eq_true rfl) ?_
  intro p_ e_ s m below meth c_ hsz S hr hlocks hname hE hW ls hl
  have S : CallFix p_ m c_ b_Ar_copyOfI 3 s _ lw_good "java/util/Arrays" := S
  have hx := S.1
  have hb := S.2.1
  have hK := hE.1
  have hl : lv_has ls 3 [(0, .ref a), (1, .int (nI k))] := hl
  refine lv_iload_n hx hb d_Ar_copyOfI_0 rfl (lv_at hl 1 rfl) ?_
  refine lv_aload_n hx hb d_Ar_copyOfI_1 rfl (lv_at hl 0 rfl) ?_
  refine wd_alen S hK hW 0 ha rfl d_Ar_copyOfI_2 ?_
  refine lv_icmp_ne (tgt := 14) hx hb d_Ar_copyOfI_3 (by decide) (fun h3 => ?_) (fun h3 => ?_)
  · refine lv_iload_n hx hb d_Ar_copyOfI_14 rfl (lv_at hl 1 rfl) ?_
    refine wd_newa S (atype := .int) ka_int rfl hK hW 0 rfl (n := (nI k)) (N' := k) (a0 := (k, .inl (fun _ => 0))) (fun _ => rfl) (nI_pos (by omega)) (nI_clamp (by omega)) (by show k * 4 ≤ 536870912; omega) (Nat.le_refl _) (by show 0 + k ≤ 40; omega) d_Ar_copyOfI_15 (fun q H hq w_1 ew_1 hW => ?_)
    have ha := wd_keep ew_1 (wd_neN ha hq) ha
    have cq : w_1 q = some (.inl (G.2.1 0, k, .inl (fun _ => 0))) := wd_here ew_1
    refine W.widen (k := 1) (n := 40) (Nat.le_refl _) (by omega) ?_
    refine lv_astore_n (lv' := [(2, .ref q), (0, .ref a), (1, .int (nI k))]) hx hb d_Ar_copyOfI_17 rfl hl (by decide) rfl (fun ls hl => ?_)
    refine lv_aload_n hx hb d_Ar_copyOfI_18 rfl (lv_at hl 1 rfl) ?_
    refine lv_iconst (v := 0) hx hb d_Ar_copyOfI_19 (by decide) ?_
    refine lv_aload_n hx hb d_Ar_copyOfI_20 rfl (lv_at hl 0 rfl) ?_
    refine lv_iconst (v := 0) hx hb d_Ar_copyOfI_21 (by decide) ?_
    refine lv_aload_n hx hb d_Ar_copyOfI_22 rfl (lv_at hl 1 rfl) ?_
    refine wd_alen S hK hW 0 ha rfl d_Ar_copyOfI_23 ?_
    refine lv_iload_n hx hb d_Ar_copyOfI_24 rfl (lv_at hl 2 rfl) ?_
    refine va_mmin hx hb (S.2.2.1.trans hl.1.symm) S.2.2.2.1 (S.2.2.2.2 _ k_Ar_304) (S.2.2.2.2 _ ks_Ma_min) (S.2.2.2.2 _ kz_Ma) (S.2.2.2.2 _ kc_Ma_min) (Nat.le_of_ble_eq_true rfl) (Nat.le_of_ble_eq_true rfl) (Nat.le_of_ble_eq_true rfl) (Nat.le_of_ble_eq_true rfl) d_Ar_copyOfI_25 ?_
    rw [show (if nI k < nI n then nI k else nI n) = nI k from if_ltk hk (by omega)]
    refine wd_copyi S hl.1 k_Ar_150 kn_Sy_arraycopy ks_Sy_arraycopy kz_Sy hK hW 0 ha cq rfl (by decide) (by decide) (nI_pos (by omega)) (by rw [nI_clamp (by omega)]; show 0 + k ≤ n; omega) (by rw [nI_clamp (by omega)]; show 0 + k ≤ k; omega) (Nat.le_of_ble_eq_true rfl) (Nat.le_of_ble_eq_true rfl) d_Ar_copyOfI_28 (fun H locs w_2 ew_2 hW => ?_)
    refine lv_aload_n hx hb d_Ar_copyOfI_31 rfl (lv_at hl 0 rfl) ?_
    refine W.eq (g2 := F0 m 32 ls [va_rf (some q)]) rfl ?_
    exact ct_qret S hr (by first | exact Or.inl ⟨_, rfl⟩ | exact Or.inr ⟨_, rfl⟩) hlocks hW (⟨q, _, rfl, hq, by rw [ew_2, ew_1]; exact bx_uu _ _ _ _, fun i hi => by rw [nI_clamp (by omega)]; exact (pk_cpy_in (Nat.zero_le _) (by show i < 0 + k; omega)).trans (by show f (0 + (i - 0)) = f i; rw [Nat.zero_add, Nat.sub_zero])⟩) (Nat.le_refl _) (Nat.le_refl _) d_Ar_copyOfI_32
  · have hkn : k = n := (nI_eq (by omega) (by omega)).mp h3
    subst hkn
    refine lv_aload_n hx hb d_Ar_copyOfI_6 rfl (lv_at hl 0 rfl) ?_
    refine wd_cloneI S hl.1 k_Ar_316 km_Ia_clone kn_Oj_clone ki_Oj_clone kv_Ia_clone hE.2.1.2.2.1 hK hW 0 ha rfl (Nat.le_of_ble_eq_true rfl) (Nat.le_of_ble_eq_true rfl) (Nat.le_of_ble_eq_true rfl) (by show 0 + k ≤ 40; omega) d_Ar_copyOfI_7 (fun q H hq w_3 ew_3 hW => ?_)
    have cq : w_3 q = some (.inl (G.2.1 0, k, .inl f)) := wd_here ew_3
    refine wd_castI S k_Ar_317 hK hW 0 cq rfl d_Ar_copyOfI_10 ?_
    refine W.eq (g2 := F0 m 13 ls [va_rf (some q)]) rfl ?_
    exact ct_qret S hr (by first | exact Or.inl ⟨_, rfl⟩ | exact Or.inr ⟨_, rfl⟩) hlocks hW (⟨q, f, rfl, hq, ew_3, fun _ _ => rfl⟩) (Nat.le_refl _) (by show 0 + k ≤ 40; omega) d_Ar_copyOfI_13

set_option maxHeartbeats 4000000 in
set_option maxRecDepth 100000 in
/-- checkLength(x, y), in order -/
theorem c_Ar_checkLength (l : Launch) (G : ev_G) (w : wd_M) (sz : Nat) (x y : Int32) (hxy : x ≤ y) : ct_v l y_Ar_checkLength b_Ar_checkLength 2 none (rm_ 0 0 0) G w sz [.int x, .int y] (fun u => u = w) := by
  refine ct_enter (by decide +kernel) (Nat.le_of_ble_eq_true rfl) ?_
  intro p_ e_ s m below meth c_ hsz S hr hlocks hname hE hW ls hl
  have S : CallFix p_ m c_ b_Ar_checkLength 2 s _ lw_good "java/util/Arrays" := S
  have hx := S.1
  have hb := S.2.1
  have hK := hE.1
  have hl : lv_has ls 2 [(0, .int x), (1, .int y)] := hl
  refine lv_iload_n hx hb d_Ar_checkLength_0 rfl (lv_at hl 1 rfl) ?_
  refine lv_iload_n hx hb d_Ar_checkLength_1 rfl (lv_at hl 0 rfl) ?_
  refine lv_icmp_ge (tgt := 37) hx hb d_Ar_checkLength_2 (by decide) (fun h2 => ?_) (fun h2 => ?_)
  · exact ct_vret S hr hlocks hW (rfl) (Nat.le_refl _) (Nat.le_refl _) d_Ar_checkLength_37
  · exact absurd hxy h2

set_option maxHeartbeats 4000000 in
set_option maxRecDepth 100000 in
/-- copyOfRangeInt(ints, 1, k + 1) -/
theorem c_Ar_copyOfRangeInt (l : Launch) (G : ev_G) (w : wd_M) (sz : Nat) (a n k : Nat) (f : Nat → Int32) (ha : w a = some (.inl (G.2.1 0, n, .inl f))) (hk : 1 + k ≤ n) (hn : n ≤ 40) : ct_q l y_Ar_copyOfRangeInt b_Ar_copyOfRangeInt 5 (some (FieldType.array FieldType.int)) (rm_ 1 1 40) G w sz [.ref a, .int 1, .int (nI (k + 1))] (fun v u => ∃ (q : Nat) (g : Nat → Int32), v = some q ∧ w q = none ∧ u = va_up w q (some (.inl (G.2.1 0, k, .inl g))) ∧ ∀ i, i < k → g i = f (1 + i)) := by
  refine ct_enter (by decide +kernel) (Nat.le_of_ble_eq_true rfl) ?_
  intro p_ e_ s m below meth c_ hsz S hr hlocks hname hE hW ls hl
  have S : CallFix p_ m c_ b_Ar_copyOfRangeInt 5 s _ lw_good "java/util/Arrays" := S
  have hx := S.1
  have hb := S.2.1
  have hK := hE.1
  have hl : lv_has ls 5 [(0, .ref a), (1, .int 1), (2, .int (nI (k + 1)))] := hl
  refine lv_iload_n hx hb d_Ar_copyOfRangeInt_0 rfl (lv_at hl 1 rfl) ?_
  refine lv_iload_n hx hb d_Ar_copyOfRangeInt_1 rfl (lv_at hl 2 rfl) ?_
  refine ct_gov hW (ct_runS (As := [.int 1, .int (nI (k + 1))]) (rest := []) S hE hW (c_Ar_checkLength l G _ _ 1 (nI (k + 1)) (nI_le (a := 1) (by omega) (by omega))) kc_Ar_checkLength kz_Ar k_Ar_343 ks_Ar_checkLength kd_Ar_checkLength ⟨Nat.le_of_ble_eq_true rfl, Nat.le_of_ble_eq_true rfl⟩ hl.1 (Nat.le_of_ble_eq_true rfl) d_Ar_copyOfRangeInt_2 ⟨Nat.le_of_ble_eq_true rfl, Nat.le_of_ble_eq_true rfl⟩) (fun u_1 H locs hp_2 hW => ?_)
  rw [hp_2] at hW
  refine lv_iload_n hx hb d_Ar_copyOfRangeInt_5 rfl (lv_at hl 2 rfl) ?_
  refine lv_iload_n hx hb d_Ar_copyOfRangeInt_6 rfl (lv_at hl 1 rfl) ?_
  refine lv_isub hx hb d_Ar_copyOfRangeInt_7 ?_
  refine lv_topi (fun x3 ex3 => ?_)
  rw [nI_pred] at ex3
  refine lv_istore_n (lv' := [(3, .int x3), (0, .ref a), (1, .int 1), (2, .int (nI (k + 1)))]) hx hb d_Ar_copyOfRangeInt_8 rfl hl (by decide) rfl (fun ls hl => ?_)
  rw [ex3] at hl
  refine lv_iload_n hx hb d_Ar_copyOfRangeInt_9 rfl (lv_at hl 0 rfl) ?_
  refine wd_newa S (atype := .int) ka_int rfl hK hW 0 rfl (n := (nI k)) (N' := k) (a0 := (k, .inl (fun _ => 0))) (fun _ => rfl) (nI_pos (by omega)) (nI_clamp (by omega)) (by show k * 4 ≤ 536870912; omega) (Nat.le_refl _) (by show 0 + 0 + k ≤ 40; omega) d_Ar_copyOfRangeInt_10 (fun q H hq w_4 ew_4 hW => ?_)
  have ha := wd_keep ew_4 (wd_neN ha hq) ha
  have cq : w_4 q = some (.inl (G.2.1 0, k, .inl (fun _ => 0))) := wd_here ew_4
  refine W.widen (k := 1) (n := 40) (Nat.le_refl _) (by show 0 + 0 + k ≤ 40; omega) ?_
  refine lv_astore (lv' := [(4, .ref q), (3, .int (nI k)), (0, .ref a), (1, .int 1), (2, .int (nI (k + 1)))]) hx hb d_Ar_copyOfRangeInt_12 hl (by decide) rfl (fun ls hl => ?_)
  refine lv_aload_n hx hb d_Ar_copyOfRangeInt_14 rfl (lv_at hl 2 rfl) ?_
  refine lv_iload_n hx hb d_Ar_copyOfRangeInt_15 rfl (lv_at hl 3 rfl) ?_
  refine lv_aload hx hb d_Ar_copyOfRangeInt_16 (lv_at hl 0 rfl) ?_
  refine lv_iconst (v := 0) hx hb d_Ar_copyOfRangeInt_18 (by decide) ?_
  refine lv_aload_n hx hb d_Ar_copyOfRangeInt_19 rfl (lv_at hl 2 rfl) ?_
  refine wd_alen S hK hW 0 ha rfl d_Ar_copyOfRangeInt_20 ?_
  refine lv_iload_n hx hb d_Ar_copyOfRangeInt_21 rfl (lv_at hl 3 rfl) ?_
  refine lv_isub hx hb d_Ar_copyOfRangeInt_22 ?_
  refine lv_iload_n hx hb d_Ar_copyOfRangeInt_23 rfl (lv_at hl 1 rfl) ?_
  rw [show nI n - 1 = nI (n - 1) from nI_pred2 (k := 0) (by omega)]
  refine va_mmin hx hb (S.2.2.1.trans hl.1.symm) S.2.2.2.1 (S.2.2.2.2 _ k_Ar_304) (S.2.2.2.2 _ ks_Ma_min) (S.2.2.2.2 _ kz_Ma) (S.2.2.2.2 _ kc_Ma_min) (Nat.le_of_ble_eq_true rfl) (Nat.le_of_ble_eq_true rfl) (Nat.le_of_ble_eq_true rfl) (Nat.le_of_ble_eq_true rfl) d_Ar_copyOfRangeInt_24 ?_
  rw [show (if nI k < nI (n - 1) then nI k else nI (n - 1)) = nI k from if_ltk (by omega) (by omega)]
  refine wd_copyi S hl.1 k_Ar_150 kn_Sy_arraycopy ks_Sy_arraycopy kz_Sy hK hW 0 ha cq rfl (by decide) (by decide) (nI_pos (by omega)) (by rw [nI_clamp (by omega)]; show 1 + k ≤ n; omega) (by rw [nI_clamp (by omega)]; show 0 + k ≤ k; omega) (Nat.le_of_ble_eq_true rfl) (Nat.le_of_ble_eq_true rfl) d_Ar_copyOfRangeInt_27 (fun H locs w_5 ew_5 hW => ?_)
  refine lv_aload hx hb d_Ar_copyOfRangeInt_30 (lv_at hl 0 rfl) ?_
  refine W.eq (g2 := F0 m 32 ls [va_rf (some q)]) rfl ?_
  exact ct_qret S hr (by first | exact Or.inl ⟨_, rfl⟩ | exact Or.inr ⟨_, rfl⟩) hlocks hW (⟨q, _, rfl, hq, by rw [ew_5, ew_4]; exact bx_uu _ _ _ _, fun i hi => by rw [nI_clamp (by omega)]; exact (pk_cpy_in (Nat.zero_le _) (by show i < 0 + k; omega)).trans (by show f (1 + (i - 0)) = f (1 + i); rw [Nat.sub_zero])⟩) (Nat.le_refl _) (Nat.le_refl _) d_Ar_copyOfRangeInt_32

set_option maxHeartbeats 4000000 in
set_option maxRecDepth 100000 in
/-- copyOfRange(ints, 1, k + 1) -/
theorem c_Ar_copyOfRange (l : Launch) (G : ev_G) (w : wd_M) (sz : Nat) (a n k : Nat) (f : Nat → Int32) (ha : w a = some (.inl (G.2.1 0, n, .inl f))) (hk : 1 + k ≤ n) (hn : n ≤ 40) : ct_q l y_Ar_copyOfRange b_Ar_copyOfRange 3 (some (FieldType.array FieldType.int)) (rm_ 2 1 40) G w sz [.ref a, .int 1, .int (nI (k + 1))] (fun v u => ∃ (q : Nat) (g : Nat → Int32), v = some q ∧ w q = none ∧ u = va_up w q (some (.inl (G.2.1 0, k, .inl g))) ∧ ∀ i, i < k → g i = f (1 + i)) := by
  refine ct_enter (by decide +kernel) (Nat.le_of_ble_eq_true rfl) ?_
  intro p_ e_ s m below meth c_ hsz S hr hlocks hname hE hW ls hl
  have S : CallFix p_ m c_ b_Ar_copyOfRange 3 s _ lw_good "java/util/Arrays" := S
  have hx := S.1
  have hb := S.2.1
  have hK := hE.1
  have hl : lv_has ls 3 [(0, .ref a), (1, .int 1), (2, .int (nI (k + 1)))] := hl
  refine lv_iload_n hx hb d_Ar_copyOfRange_0 rfl (lv_at hl 1 rfl) ?_
  refine lv_if_ne (tgt := 10) hx hb d_Ar_copyOfRange_1 (by decide) (fun h1 => ?_) (fun h1 => ?_)
  · refine lv_aload_n hx hb d_Ar_copyOfRange_10 rfl (lv_at hl 0 rfl) ?_
    refine lv_iload_n hx hb d_Ar_copyOfRange_11 rfl (lv_at hl 1 rfl) ?_
    refine lv_iload_n hx hb d_Ar_copyOfRange_12 rfl (lv_at hl 2 rfl) ?_
    refine ct_goq hW (ct_runS (As := [.ref a, .int 1, .int (nI (k + 1))]) (rest := []) S hE hW (c_Ar_copyOfRangeInt l G _ _ a n k f ha hk hn) kc_Ar_copyOfRangeInt kz_Ar k_Ar_351 ks_Ar_copyOfRangeInt kd_Ar_copyOfRangeInt ⟨Nat.le_of_ble_eq_true rfl, Nat.le_of_ble_eq_true rfl⟩ hl.1 (Nat.le_of_ble_eq_true rfl) d_Ar_copyOfRange_13 ⟨Nat.le_of_ble_eq_true rfl, Nat.le_of_ble_eq_true rfl⟩) (fun v_3 u_1 H locs hp_2 hW => ?_)
    exact ct_qret S hr (by first | exact Or.inl ⟨_, rfl⟩ | exact Or.inr ⟨_, rfl⟩) hlocks hW (hp_2) (Nat.le_refl _) (Nat.le_refl _) d_Ar_copyOfRange_16
  · exact absurd h1 (by decide)
end
section
/-! THE CLASS: rows that stand in rows. -/

set_option maxHeartbeats 4000000 in
set_option maxRecDepth 100000 in
/-- the loop of standsAt -/
theorem lo_HR_standsAt {p_ : Program} {l : Launch} {e_ : Env} {s : State} {m : MethodId} {args : Array Value} {below : List Frame} {meth : Method} {c_ : Code} {Q : State → Prop} {G : ev_G} {A : Nat → Prop} (S : CallFix p_ m c_ b_HR_standsAt 4 s args lw_good "HyphenRows") (hE : ev_K G A s s.heap) {w : wd_M} {H : Heap} {locs : List Loc} {a b na nb k : Nat} {fa fb : Nat → Int32} (hW : wd_W G.1 ev_cl A w s.heap H locs) (ha : w a = some (.inl (G.2.1 0, na, .inl fa))) (hb2 : w b = some (.inl (G.2.1 0, nb, .inl fb))) (hkn : k + na ≤ nb) (hnb : nb ≤ 1000) (kt : (∀ i, i < na → fb (k + i) = fa i) → ∀ ls : Array Slot, lv_has ls 4 [(0, .ref a), (1, .ref b), (2, .int (nI k))] → W p_ l e_ (rm_ 0 0 0) s m args below meth c_ H locs 0 0 Q (F0 m 42 ls [])) (kf : ∀ i, i < na → ¬ fb (k + i) = fa i → ∀ ls : Array Slot, lv_has ls 4 [(0, .ref a), (1, .ref b), (2, .int (nI k))] → W p_ l e_ (rm_ 0 0 0) s m args below meth c_ H locs 0 0 Q (F0 m 34 ls [])) :
    ∀ (fu : Nat) (i : Nat) (xi : Int32) (ls : Array Slot), na < i + fu → i ≤ na → xi = nI i → (∀ j, j < i → fb (k + j) = fa j) → lv_has ls 4 [(0, .ref a), (1, .ref b), (2, .int (nI k)), (3, .int xi)] → W p_ l e_ (rm_ 0 0 0) s m args below meth c_ H locs 0 0 Q (F0 m 17 ls []) := by
  have hx := S.1
  have hb := S.2.1
  have hK := hE.1
  intro fu
  induction fu with
  | zero =>
    intro i xi ls hfu hi exi hinv hl
    exact absurd hfu (by omega)
  | succ fu ih =>
    intro i xi ls hfu hi exi hinv hl
    refine lv_iload_n hx hb d_HR_standsAt_17 rfl (lv_at hl 3 rfl) ?_
    refine lv_aload_n hx hb d_HR_standsAt_18 rfl (lv_at hl 0 rfl) ?_
    refine wd_alen S hK hW 0 ha rfl d_HR_standsAt_19 ?_
    refine lv_icmp_ge (tgt := 42) hx hb d_HR_standsAt_20 (by decide) (fun h20 => ?_) (fun h20 => ?_)
    · exact kt (fun j hj => hinv j (by rw [exi] at h20; have := (nI_leI (by omega) (by omega)).mp h20; omega)) ls (lv_sub hl [0, 1, 2] rfl)
    · have hlt : i < na := by rw [exi] at h20; exact Nat.lt_of_not_le (fun q => h20 (nI_le q (by omega)))
      refine lv_aload_n hx hb d_HR_standsAt_23 rfl (lv_at hl 1 rfl) ?_
      refine lv_iload_n hx hb d_HR_standsAt_24 rfl (lv_at hl 2 rfl) ?_
      refine lv_iload_n hx hb d_HR_standsAt_25 rfl (lv_at hl 3 rfl) ?_
      refine lv_iadd hx hb d_HR_standsAt_26 ?_
      rw [show nI k + xi = nI (k + i) from by rw [exi]; exact nI_add k i]
      refine wd_iald S hK hW 0 hb2 rfl (vp_in_nI (by omega) (by omega)) d_HR_standsAt_27 ?_
      refine lv_aload_n hx hb d_HR_standsAt_28 rfl (lv_at hl 0 rfl) ?_
      refine lv_iload_n hx hb d_HR_standsAt_29 rfl (lv_at hl 3 rfl) ?_
      have hin : vp_in xi na := by rw [exi]; exact vp_in_nI hlt (by omega)
      refine wd_iald S hK hW 0 ha rfl hin d_HR_standsAt_30 ?_
      rw [nI_clamp (n := k + i) (by omega), show xi.toNatClampNeg = i from by rw [exi]; exact nI_clamp (by omega)]
      refine lv_icmp_eq (tgt := 36) hx hb d_HR_standsAt_31 (by decide) (fun h31 => ?_) (fun h31 => ?_)
      · obtain ⟨xi2, exi2⟩ : ∃ y : Int32, y = xi + 1 := ⟨_, rfl⟩
        refine lv_iinc (v := xi2) (lv' := [(3, .int xi2), (0, .ref a), (1, .ref b), (2, .int (nI k))]) hx hb d_HR_standsAt_36 hl (k := 3) rfl (by rw [exi2]; rfl) (by decide) rfl (fun ls hl => ?_)
        refine lv_goto (tgt := 17) hx hb d_HR_standsAt_39 (by decide) ?_
        exact ih (i + 1) xi2 _ (by omega) (by omega) (by rw [exi2, exi]; exact nI_1 i) (lt_s hinv h31) (lv_sub hl [1, 2, 3, 0] rfl)
      · exact kf i hlt h31 ls (lv_sub hl [0, 1, 2] rfl)

set_option maxHeartbeats 4000000 in
set_option maxRecDepth 100000 in
/-- standsAt(a, b, k): the row a stands in b from k on -/
theorem c_HR_standsAt (l : Launch) (G : ev_G) (w : wd_M) (sz : Nat) (a b na nb k : Nat) (fa fb : Nat → Int32) (ha : w a = some (.inl (G.2.1 0, na, .inl fa))) (hb2 : w b = some (.inl (G.2.1 0, nb, .inl fb))) (hna : na ≤ 1000) (hnb : nb ≤ 1000) (hk : k ≤ 1000) : ct_i l y_HR_standsAt b_HR_standsAt 4 (some FieldType.boolean) (rm_ 0 0 0) G w sz [.ref a, .ref b, .int (nI k)] (fun v u => bl_ v (k + na ≤ nb ∧ ∀ i, i < na → fb (k + i) = fa i) ∧ u = w) := by
  refine ct_enter (by decide +kernel) (Nat.le_of_ble_eq_true rfl) ?_
  intro p_ e_ s m below meth c_ hsz S hr hlocks hname hE hW ls hl
  have S : CallFix p_ m c_ b_HR_standsAt 4 s _ lw_good "HyphenRows" := S
  have hx := S.1
  have hb := S.2.1
  have hK := hE.1
  have hl : lv_has ls 4 [(0, .ref a), (1, .ref b), (2, .int (nI k))] := hl
  have hbnd : nI k ≤ nI nb - nI na ↔ k + na ≤ nb := by
    rw [Int32.le_iff_toInt_le, nI_toInt (by omega), pk_sub_toInt (by omega) (by omega)]
    omega
  refine lv_iload_n hx hb d_HR_standsAt_0 rfl (lv_at hl 2 rfl) ?_
  refine lv_if_lt (tgt := 13) hx hb d_HR_standsAt_1 (by decide) (fun h1 => ?_) (fun h1 => ?_)
  · exact absurd h1 (nI_pos (by omega))
  · refine lv_iload_n hx hb d_HR_standsAt_4 rfl (lv_at hl 2 rfl) ?_
    refine lv_aload_n hx hb d_HR_standsAt_5 rfl (lv_at hl 1 rfl) ?_
    refine wd_alen S hK hW 0 hb2 rfl d_HR_standsAt_6 ?_
    refine lv_aload_n hx hb d_HR_standsAt_7 rfl (lv_at hl 0 rfl) ?_
    refine wd_alen S hK hW 0 ha rfl d_HR_standsAt_8 ?_
    refine lv_isub hx hb d_HR_standsAt_9 ?_
    refine lv_icmp_le (tgt := 15) hx hb d_HR_standsAt_10 (by decide) (fun h10 => ?_) (fun h10 => ?_)
    · have hkn : k + na ≤ nb := hbnd.mp h10
      refine lv_iconst (v := 0) hx hb d_HR_standsAt_15 (by decide) ?_
      refine lv_istore_n (lv' := [(3, .int 0), (0, .ref a), (1, .ref b), (2, .int (nI k))]) hx hb d_HR_standsAt_16 rfl hl (by decide) rfl (fun ls hl => ?_)
      refine lo_HR_standsAt S hE hW ha hb2 hkn hnb (fun hall ls hl => ?_) (fun i hi hne ls hl => ?_) (na + 1) 0 0 _ (by omega) (Nat.zero_le na) nI_0.symm lt_0 (lv_sub hl [1, 2, 3, 0] rfl)
      · refine lv_iconst (v := 1) hx hb d_HR_standsAt_42 (by decide) ?_
        exact ct_iret S hr rfl hlocks hW (⟨Or.inl ⟨rfl, hkn, hall⟩, rfl⟩) (Nat.le_refl _) (Nat.le_refl _) d_HR_standsAt_43
      · refine lv_iconst (v := 0) hx hb d_HR_standsAt_34 (by decide) ?_
        exact ct_iret S hr rfl hlocks hW (⟨Or.inr ⟨rfl, fun q => hne (q.2 i hi)⟩, rfl⟩) (Nat.le_refl _) (Nat.le_refl _) d_HR_standsAt_35
    · refine lv_iconst (v := 0) hx hb d_HR_standsAt_13 (by decide) ?_
      exact ct_iret S hr rfl hlocks hW (⟨Or.inr ⟨rfl, fun q => h10 (hbnd.mpr q.1)⟩, rfl⟩) (Nat.le_refl _) (Nat.le_refl _) d_HR_standsAt_14
end
section
/-! HOW THE CLASS HOLDS ITS STATE. B: the addresses that its fields name (0 1 2 the lists, 3 .. 8 the arrays); E: the lists' arrays; F: what the arrays hold; tg: a tag for each address, so that two parts are never one cell. -/
abbrev hr_fs (B : Nat → Nat) (tot mn wn pn : Int32) : List Value := [.ref (B 0), .ref (B 1), .ref (B 2), .int tot, .ref (B 3), .ref (B 4), .int mn, .ref (B 5), .int wn, .ref (B 6), .ref (B 7), .ref (B 8), .int pn]
def hr_c (G : ev_G) (w : wd_M) (r : Nat) (B : Nat → Nat) (F : Nat → Nat → Int32) (tot mn wn pn : Int32) : Prop :=
  w r = some (.inr (0, [.ref (B 0), .ref (B 1), .ref (B 2), .int tot, .ref (B 3), .ref (B 4), .int mn, .ref (B 5), .int wn, .ref (B 6), .ref (B 7), .ref (B 8), .int pn])) ∧ w (B 3) = some (.inl (G.2.1 0, 12, .inl (F 3))) ∧ w (B 4) = some (.inl (G.2.1 0, 13, .inl (F 4))) ∧ w (B 5) = some (.inl (G.2.1 0, 30, .inl (F 5))) ∧ w (B 6) = some (.inl (G.2.1 0, 32, .inl (F 6))) ∧ w (B 7) = some (.inl (G.2.1 0, 33, .inl (F 7))) ∧ w (B 8) = some (.inl (G.2.1 0, 30, .inl (F 8)))
/-- a language -/
def la_1 (G : ev_G) (w : wd_M) (a b z : Nat) (lg : hy_L) : Prop := w a = some (.inr (1, [.ref b, .ref z, .int (nI lg.2.2.1), .int (nI lg.2.2.2.1), .int lg.2.2.2.2])) ∧ w b = some (.inl (G.2.1 0, 256, .inl lg.1)) ∧ w z = some (.inl (G.2.1 1, 256, .inl lg.2.1))
def la_ (G : ev_G) (w : wd_M) (tg : Nat → Nat) (la : List Nat) (Ls : List hy_L) : Prop := la.length = Ls.length ∧ ∀ (i : Nat) (lg : hy_L), Ls[i]? = some lg → ∃ a b z : Nat, la[i]? = some a ∧ la_1 G w a b z lg ∧ tg a = 1000 + 3 * i ∧ tg b = 1001 + 3 * i ∧ tg z = 1002 + 3 * i
/-- a pattern -/
def pa_1 (G : ev_G) (w : wd_M) (a b d : Nat) (f g : Nat → Int32) (p : hy_P) : Prop := w a = some (.inr (2, [.int (nI p.1), .ref b, .ref d])) ∧ w b = some (.inl (G.2.1 0, p.2.1.length, .inl f)) ∧ w d = some (.inl (G.2.1 0, p.2.1.length + 1, .inl g)) ∧ li_ p.2.1 f ∧ li_ p.2.2 g
def pa_ (G : ev_G) (w : wd_M) (tg : Nat → Nat) (pa : List Nat) (Ps : List hy_P) : Prop := pa.length = Ps.length ∧ ∀ (i : Nat) (p : hy_P), Ps[i]? = some p → ∃ (a b d : Nat) (f g : Nat → Int32), pa[i]? = some a ∧ pa_1 G w a b d f g p ∧ tg a = 2000 + 3 * i ∧ tg b = 2001 + 3 * i ∧ tg d = 2002 + 3 * i
/-- a told word -/
def ta_1 (G : ev_G) (w : wd_M) (a b : Nat) (f : Nat → Int32) (t : hy_T) : Prop := w a = some (.inr (3, [.int (nI t.1), .ref b, .int t.2.2])) ∧ w b = some (.inl (G.2.1 0, t.2.1.length, .inl f)) ∧ li_ t.2.1 f
def ta_ (G : ev_G) (w : wd_M) (tg : Nat → Nat) (ta : List Nat) (Ts : List hy_T) : Prop := ta.length = Ts.length ∧ (∀ (i j a : Nat), ta[i]? = some a → ta[j]? = some a → i = j) ∧ ∀ (i : Nat) (t : hy_T), Ts[i]? = some t → ∃ (a b : Nat) (f : Nat → Int32), ta[i]? = some a ∧ ta_1 G w a b f t ∧ tg a = 10000 + 2 * a ∧ tg b = 10001 + 2 * a
/-- what is true of every state that calls can make -/
def hy_wf (Ls : List hy_L) (Ps : List hy_P) (Ts : List hy_T) (ml md wd : List Int32) (pl : List Nat) : Prop :=
  Ls.length ≤ 4 ∧ Ps.length ≤ 150 ∧ Ts.length ≤ 40 ∧ ml.length = md.length ∧ ml.length ≤ 12 ∧ wd.length ≤ 30 ∧ pl.length ≤ 30 ∧ hy_tot Ps ≤ 900 ∧
  (∀ x ∈ ml, 0 ≤ x) ∧ (∀ x ∈ md, 0 ≤ x) ∧ (∀ x ∈ wd, ∃ s : Nat, s < 256 ∧ x = nI s) ∧ (∀ x ∈ pl, x ≤ 30) ∧
  (∀ lg ∈ Ls, (∀ s : Nat, 0 ≤ lg.1 s) ∧ lg.2.2.1 ≤ 20 ∧ lg.2.2.2.1 ≤ 20) ∧
  (∀ p ∈ Ps, p.1 < 4 ∧ p.2.2.length = p.2.1.length + 1 ∧ 1 ≤ p.2.1.length ∧ p.2.1.length ≤ 12 ∧ ∀ x ∈ p.2.2, 0 ≤ x) ∧
  (∀ t ∈ Ts, t.1 < 4 ∧ t.2.1.length ≤ 30)
def hr_g (tg : Nat → Nat) (r : Nat) (B : Nat → Nat) : Prop := tg r = 1 ∧ ∀ i, i < 9 → tg (B i) = 2 + i
/-- THE CLASS HOLDS THE STATE -/
def hr_ (G : ev_G) (w : wd_M) (tg : Nat → Nat) (r : Nat) (Ls : List hy_L) (Ps : List hy_P) (Ts : List hy_T) (ml md wd : List Int32) (pl : List Nat) : Prop :=
  ∃ (B E : Nat → Nat) (F : Nat → Nat → Int32) (la pa ta : List Nat), hr_c G w r B F (nI (hy_tot Ps)) (nI ml.length) (nI wd.length) (nI pl.length) ∧ hr_g tg r B ∧
  (al_ G w (B 0) (E 0) la ∧ al_ G w (B 1) (E 1) pa ∧ al_ G w (B 2) (E 2) ta ∧ ∀ i, i < 3 → w (E i) ≠ none → tg (E i) = 11 + i) ∧
  la_ G w tg la Ls ∧ pa_ G w tg pa Ps ∧ ta_ G w tg ta Ts ∧ li_ ml (F 3) ∧ li_ md (F 4) ∧ li_ wd (F 5) ∧ li_ (pl.map nI) (F 8)
/-- a world keeps the cells whose tags have P; tags stay -/
def kp_ (w u : wd_M) (tg : Nat → Nat) (P : Nat → Prop) : Prop := ∀ x : Nat, w x ≠ none → P (tg x) → u x = w x
def ex_ (w : wd_M) (tg tg2 : Nat → Nat) : Prop := ∀ x : Nat, w x ≠ none → tg2 x = tg x
theorem wd_some {w : wd_M} {a : Nat} {x : va_E} (h : w a = some x) : w a ≠ none := by rw [h]; exact Option.some_ne_none x
theorem wd_neA {w : wd_M} {a b n n2 : Nat} {c c2 : ClassId} {f g : Nat → Int32} (ha : w a = some (.inl (c, n, .inl f))) (hb : w b = some (.inl (c2, n2, .inl g))) (h : n ≠ n2) : a ≠ b := wd_ne ha hb (fun q => by cases q; exact h rfl)
theorem tg_ne {tg : Nat → Nat} {a b : Nat} (h : tg a ≠ tg b) : a ≠ b := fun q => h (by rw [q])
theorem la_keep {G : ev_G} {w u : wd_M} {tg tg2 : Nat → Nat} {la : List Nat} {Ls : List hy_L} (h : la_ G w tg la Ls) (hk : kp_ w u tg (fun t => 1000 ≤ t ∧ t < 2000)) (he : ex_ w tg tg2) (hn : Ls.length ≤ 4) : la_ G u tg2 la Ls := by
  refine ⟨h.1, fun i lg hi => ?_⟩
  have hil := (List.getElem?_eq_some_iff.mp hi).1
  obtain ⟨a, b, z, h1, ⟨g1, g2, g3⟩, t1, t2, t3⟩ := h.2 i lg hi
  refine ⟨a, b, z, h1, ⟨?_, ?_, ?_⟩, (he a (wd_some g1)).trans t1, (he b (wd_some g2)).trans t2, (he z (wd_some g3)).trans t3⟩
  · rw [hk a (wd_some g1) (by show _ ∧ _; omega)]; exact g1
  · rw [hk b (wd_some g2) (by show _ ∧ _; omega)]; exact g2
  · rw [hk z (wd_some g3) (by show _ ∧ _; omega)]; exact g3
theorem pa_keep {G : ev_G} {w u : wd_M} {tg tg2 : Nat → Nat} {pa : List Nat} {Ps : List hy_P} (h : pa_ G w tg pa Ps) (hk : kp_ w u tg (fun t => 2000 ≤ t ∧ t < 10000)) (he : ex_ w tg tg2) (hn : Ps.length ≤ 150) : pa_ G u tg2 pa Ps := by
  refine ⟨h.1, fun i p hi => ?_⟩
  have hil := (List.getElem?_eq_some_iff.mp hi).1
  obtain ⟨a, b, d, f, g, h1, ⟨g1, g2, g3, g4⟩, t1, t2, t3⟩ := h.2 i p hi
  refine ⟨a, b, d, f, g, h1, ⟨?_, ?_, ?_, g4⟩, (he a (wd_some g1)).trans t1, (he b (wd_some g2)).trans t2, (he d (wd_some g3)).trans t3⟩
  · rw [hk a (wd_some g1) (by show _ ∧ _; omega)]; exact g1
  · rw [hk b (wd_some g2) (by show _ ∧ _; omega)]; exact g2
  · rw [hk d (wd_some g3) (by show _ ∧ _; omega)]; exact g3
theorem ta_keep {G : ev_G} {w u : wd_M} {tg tg2 : Nat → Nat} {ta : List Nat} {Ts : List hy_T} (h : ta_ G w tg ta Ts) (hk : kp_ w u tg (fun t => 10000 ≤ t)) (he : ex_ w tg tg2) : ta_ G u tg2 ta Ts := by
  refine ⟨h.1, h.2.1, fun i t hi => ?_⟩
  obtain ⟨a, b, f, h1, ⟨g1, g2, g3⟩, t1, t2⟩ := h.2.2 i t hi
  refine ⟨a, b, f, h1, ⟨?_, ?_, g3⟩, (he a (wd_some g1)).trans t1, (he b (wd_some g2)).trans t2⟩
  · rw [hk a (wd_some g1) (by show _ ≤ _; omega)]; exact g1
  · rw [hk b (wd_some g2) (by show _ ≤ _; omega)]; exact g2
theorem al_keep {G : ev_G} {w u : wd_M} {a e : Nat} {els : List Nat} (h : al_ G w a e els) (ha : u a = w a) (he : w e ≠ none → u e = w e) : al_ G u a e els := by
  obtain ⟨mo, h1, h2⟩ := h
  refine ⟨mo, ha.trans h1, ?_⟩
  rcases h2 with h2 | ⟨cap, f, g1, g2⟩
  · exact Or.inl h2
  · exact Or.inr ⟨cap, f, (he (wd_some g1)).trans g1, g2⟩
theorem la_obs {G : ev_G} {w : wd_M} {tg : Nat → Nat} {la : List Nat} {Ls : List hy_L} (h : la_ G w tg la Ls) : ∀ y ∈ la, ob_ w y := by
  intro y hy
  obtain ⟨i, hi⟩ := List.getElem?_of_mem hy
  have hil : i < Ls.length := by rw [← h.1]; exact (List.getElem?_eq_some_iff.mp hi).1
  obtain ⟨a, b, z, h1, ⟨g1, -⟩, -⟩ := h.2 i Ls[i] (List.getElem?_eq_getElem hil)
  rw [hi] at h1
  cases h1
  exact ⟨1, _, g1, Or.inl rfl⟩
theorem pa_obs {G : ev_G} {w : wd_M} {tg : Nat → Nat} {pa : List Nat} {Ps : List hy_P} (h : pa_ G w tg pa Ps) : ∀ y ∈ pa, ob_ w y := by
  intro y hy
  obtain ⟨i, hi⟩ := List.getElem?_of_mem hy
  have hil : i < Ps.length := by rw [← h.1]; exact (List.getElem?_eq_some_iff.mp hi).1
  obtain ⟨a, b, d, f, g, h1, ⟨g1, -⟩, -⟩ := h.2 i Ps[i] (List.getElem?_eq_getElem hil)
  rw [hi] at h1
  cases h1
  exact ⟨2, _, g1, Or.inr (Or.inl rfl)⟩
theorem ta_obs {G : ev_G} {w : wd_M} {tg : Nat → Nat} {ta : List Nat} {Ts : List hy_T} (h : ta_ G w tg ta Ts) : ∀ y ∈ ta, ob_ w y := by
  intro y hy
  obtain ⟨i, hi⟩ := List.getElem?_of_mem hy
  have hil : i < Ts.length := by rw [← h.1]; exact (List.getElem?_eq_some_iff.mp hi).1
  obtain ⟨a, b, f, h1, ⟨g1, -⟩, -⟩ := h.2.2 i Ts[i] (List.getElem?_eq_getElem hil)
  rw [hi] at h1
  cases h1
  exact ⟨3, _, g1, Or.inr (Or.inr rfl)⟩
end
section
/-! THE CLASS: its private methods that only look. -/

set_option maxHeartbeats 4000000 in
set_option maxRecDepth 100000 in
/-- isLanguage(x) -/
theorem c_HR_isLanguage (l : Launch) (G : ev_G) (w : wd_M) (sz : Nat) (r : Nat) (B E : Nat → Nat) (F : Nat → Nat → Int32) (tot mn wn pn : Int32) (la : List Nat) (x : Int32) (hc : hr_c G w r B F tot mn wn pn) (hal : al_ G w (B 0) (E 0) la) : ct_i l y_HR_isLanguage b_HR_isLanguage 2 (some FieldType.boolean) (rm_ 1 0 0) G w sz [.ref r, .int x] (fun v u => bl_ v (nm_ x la.length) ∧ u = w) := by
  refine ct_enter (by decide +kernel) (Nat.le_of_ble_eq_true rfl) ?_
  intro p_ e_ s m below meth c_ hsz S hr hlocks hname hE hW ls hl
  have S : CallFix p_ m c_ b_HR_isLanguage 2 s _ lw_good "HyphenRows" := S
  have hx := S.1
  have hb := S.2.1
  have hK := hE.1
  have hl : lv_has ls 2 [(0, .ref r), (1, .int x)] := hl
  obtain ⟨hr0, a3, a4, a5, a6, a7, a8⟩ := id hc
  obtain ⟨mo0, haL, he0⟩ := id hal
  refine lv_iload_n hx hb d_HR_isLanguage_0 rfl (lv_at hl 1 rfl) ?_
  refine lv_if_lt (tgt := 19) hx hb d_HR_isLanguage_1 (by decide) (fun h1 => ?_) (fun h1 => ?_)
  · refine lv_iconst (v := 0) hx hb d_HR_isLanguage_19 (by decide) ?_
    exact ct_iret S hr rfl hlocks hW (⟨Or.inr ⟨rfl, fun q => q.1 h1⟩, rfl⟩) (Nat.le_refl _) (Nat.le_refl _) d_HR_isLanguage_20
  · refine lv_iload_n hx hb d_HR_isLanguage_4 rfl (lv_at hl 1 rfl) ?_
    refine lv_aload_n hx hb d_HR_isLanguage_5 rfl (lv_at hl 0 rfl) ?_
    refine wd_get S i_HR hK hW hr0 rfl 0 (by decide) k_HR_10 rfl rfl d_HR_isLanguage_6 ?_
    refine ct_goi hW (ct_runV (As := []) (rest := [.int x]) (q := (R_AL, F_AL, 3)) S hE hW (c_AL_size l G _ _ (B 0) (E 0) (nI la.length) mo0 haL) haL rfl kc_AL_size kz_AL k_HR_54 ki_AL_size kv_AL_size kd_AL_size ⟨Nat.le_of_ble_eq_true rfl, Nat.le_of_ble_eq_true rfl⟩ hl.1 (Nat.le_of_ble_eq_true rfl) d_HR_isLanguage_9 ⟨Nat.le_of_ble_eq_true rfl, Nat.le_of_ble_eq_true rfl⟩) (fun v_3 u_1 H locs hp_2 hW => ?_)
    obtain ⟨hv, hu_4⟩ := hp_2
    rw [hu_4] at hW
    rw [hv]
    refine lv_icmp_ge (tgt := 19) hx hb d_HR_isLanguage_12 (by decide) (fun hq => ?_) (fun hq => ?_)
    · refine lv_iconst (v := 0) hx hb d_HR_isLanguage_19 (by decide) ?_
      exact ct_iret S hr rfl hlocks hW (⟨Or.inr ⟨rfl, fun q => q.2 hq⟩, rfl⟩) (Nat.le_refl _) (Nat.le_refl _) d_HR_isLanguage_20
    · refine lv_iconst (v := 1) hx hb d_HR_isLanguage_15 (by decide) ?_
      refine lv_goto (tgt := 20) hx hb d_HR_isLanguage_16 (by decide) ?_
      exact ct_iret S hr rfl hlocks hW (⟨Or.inl ⟨rfl, h1, hq⟩, rfl⟩) (Nat.le_refl _) (Nat.le_refl _) d_HR_isLanguage_20

theorem nI_pred3 {n : Nat} (h : 0 < n) : nI n - 1 = nI (n - 1) := nI_pred2 (k := 0) h

set_option maxHeartbeats 4000000 in
set_option maxRecDepth 100000 in
/-- the loop of isPatternRow -/
theorem lo_HR_isPatternRow {p_ : Program} {l : Launch} {e_ : Env} {s : State} {m : MethodId} {args : Array Value} {below : List Frame} {meth : Method} {c_ : Code} {Q : State → Prop} {G : ev_G} {A : Nat → Prop} (S : CallFix p_ m c_ b_HR_isPatternRow 4 s args lw_good "HyphenRows") (hE : ev_K G A s s.heap) {w : wd_M} {H : Heap} {locs : List Loc} {r n : Nat} {B : Nat → Nat} {F : Nat → Nat → Int32} {tot mn wn pn : Int32} (hW : wd_W G.1 ev_cl A w s.heap H locs) (hc : hr_c G w r B F tot mn wn pn) (hn : n ≤ 12) (kk : ∀ sm : Int32, ((sm = 1 ∧ ∃ j, j < n ∧ ¬ F 3 j = 0) ∨ (sm = 0 ∧ ∀ j, j < n → F 3 j = 0)) → (∀ j, j < n → F 3 j = 0 → j = 0 ∨ j + 1 = n) → ∀ ls : Array Slot, lv_has ls 4 [(0, .ref r), (1, .int (nI n)), (2, .int sm)] → W p_ l e_ (rm_ 0 0 0) s m args below meth c_ H locs 0 0 Q (F0 m 42 ls [])) (kf : ∀ i, i < n → F 3 i = 0 → ¬ i = 0 → ¬ i + 1 = n → ∀ ls : Array Slot, (∃ sm : Int32, lv_has ls 4 [(0, .ref r), (1, .int (nI n)), (2, .int sm)]) → W p_ l e_ (rm_ 0 0 0) s m args below meth c_ H locs 0 0 Q (F0 m 34 ls [])) :
    ∀ (fu : Nat) (i : Nat) (xi : Int32) (sm : Int32) (ls : Array Slot), n < i + fu → i ≤ n → xi = nI i → ((sm = 1 ∧ ∃ j, j < i ∧ ¬ F 3 j = 0) ∨ (sm = 0 ∧ ∀ j, j < i → F 3 j = 0)) → (∀ j, j < i → F 3 j = 0 → j = 0 ∨ j + 1 = n) → lv_has ls 4 [(0, .ref r), (1, .int (nI n)), (2, .int sm), (3, .int xi)] → W p_ l e_ (rm_ 0 0 0) s m args below meth c_ H locs 0 0 Q (F0 m 4 ls []) := by
  have hx := S.1
  have hb := S.2.1
  have hK := hE.1
  intro fu
  induction fu with
  | zero =>
    intro i xi sm ls hfu hi exi hsm hmid hl
    exact absurd hfu (by omega)
  | succ fu ih =>
    intro i xi sm ls hfu hi exi hsm hmid hl
    obtain ⟨hr0, a3, a4, a5, a6, a7, a8⟩ := id hc
    refine lv_iload_n hx hb d_HR_isPatternRow_4 rfl (lv_at hl 3 rfl) ?_
    refine lv_iload_n hx hb d_HR_isPatternRow_5 rfl (lv_at hl 1 rfl) ?_
    refine lv_icmp_ge (tgt := 42) hx hb d_HR_isPatternRow_6 (by decide) (fun h6 => ?_) (fun h6 => ?_)
    · exact kk sm (hsm.imp (fun q => ⟨q.1, by rw [exi] at h6; have := (nI_leI (by omega) (by omega)).mp h6; obtain ⟨j, hj, hz⟩ := q.2; exact ⟨j, by omega, hz⟩⟩) (fun q => ⟨q.1, fun j hj => q.2 j (by rw [exi] at h6; have := (nI_leI (by omega) (by omega)).mp h6; omega)⟩)) (fun j hj hz => hmid j (by rw [exi] at h6; have := (nI_leI (by omega) (by omega)).mp h6; omega) hz) ls (lv_sub hl [0, 1, 2] rfl)
    · have hlt : i < n := by rw [exi] at h6; exact Nat.lt_of_not_le (fun q => h6 (nI_le q (by omega)))
      have hin : vp_in xi 12 := by rw [exi]; exact vp_in_nI (by omega) (by omega)
      have hcl : xi.toNatClampNeg = i := by rw [exi]; exact nI_clamp (by omega)
      refine lv_aload_n hx hb d_HR_isPatternRow_9 rfl (lv_at hl 0 rfl) ?_
      refine wd_get S i_HR hK hW hr0 rfl 4 (by decide) k_HR_26 rfl rfl d_HR_isPatternRow_10 ?_
      refine lv_iload_n hx hb d_HR_isPatternRow_13 rfl (lv_at hl 3 rfl) ?_
      refine wd_iald S hK hW 0 a3 rfl hin d_HR_isPatternRow_14 ?_
      rw [hcl]
      refine lv_if_eq (tgt := 23) hx hb d_HR_isPatternRow_15 (by decide) (fun h15 => ?_) (fun h15 => ?_)
      · refine lv_iload_n hx hb d_HR_isPatternRow_23 rfl (lv_at hl 3 rfl) ?_
        refine lv_if_le (tgt := 36) hx hb d_HR_isPatternRow_24 (by decide) (fun h24 => ?_) (fun h24 => ?_)
        · have hi0 : i = 0 := by rw [exi] at h24; have h9 := (nI_leI (a := i) (b := 0) (by omega) (by omega)).mp h24; omega
          obtain ⟨xi2, exi2⟩ : ∃ y : Int32, y = xi + 1 := ⟨_, rfl⟩
          refine lv_iinc (v := xi2) (lv' := [(3, .int xi2), (0, .ref r), (1, .int (nI n)), (2, .int sm)]) hx hb d_HR_isPatternRow_36 hl (k := 3) rfl (by rw [exi2]; rfl) (by decide) rfl (fun ls hl => ?_)
          refine lv_goto (tgt := 4) hx hb d_HR_isPatternRow_39 (by decide) ?_
          exact ih (i + 1) xi2 sm _ (by omega) (by omega) (by rw [exi2, exi]; exact nI_1 i) (hsm.imp (fun q => ⟨q.1, by obtain ⟨j, hj, hz⟩ := q.2; exact ⟨j, by omega, hz⟩⟩) (fun q => ⟨q.1, lt_s q.2 h15⟩)) (lt_s hmid (fun _ => Or.inl hi0)) (lv_sub hl [1, 2, 3, 0] rfl)
        · refine lv_iload_n hx hb d_HR_isPatternRow_27 rfl (lv_at hl 3 rfl) ?_
          refine lv_iload_n hx hb d_HR_isPatternRow_28 rfl (lv_at hl 1 rfl) ?_
          refine lv_iconst (v := 1) hx hb d_HR_isPatternRow_29 (by decide) ?_
          refine lv_isub hx hb d_HR_isPatternRow_30 ?_
          rw [show nI n - 1 = nI (n - 1) from nI_pred2 (k := i) hlt]
          refine lv_icmp_ge (tgt := 36) hx hb d_HR_isPatternRow_31 (by decide) (fun h31 => ?_) (fun h31 => ?_)
          · have hil : i + 1 = n := by rw [exi] at h31; have h9 := (nI_leI (a := n - 1) (b := i) (by omega) (by omega)).mp h31; omega
            obtain ⟨xi2, exi2⟩ : ∃ y : Int32, y = xi + 1 := ⟨_, rfl⟩
            refine lv_iinc (v := xi2) (lv' := [(3, .int xi2), (0, .ref r), (1, .int (nI n)), (2, .int sm)]) hx hb d_HR_isPatternRow_36 hl (k := 3) rfl (by rw [exi2]; rfl) (by decide) rfl (fun ls hl => ?_)
            refine lv_goto (tgt := 4) hx hb d_HR_isPatternRow_39 (by decide) ?_
            exact ih (i + 1) xi2 sm _ (by omega) (by omega) (by rw [exi2, exi]; exact nI_1 i) (hsm.imp (fun q => ⟨q.1, by obtain ⟨j, hj, hz⟩ := q.2; exact ⟨j, by omega, hz⟩⟩) (fun q => ⟨q.1, lt_s q.2 h15⟩)) (lt_s hmid (fun _ => Or.inr hil)) (lv_sub hl [1, 2, 3, 0] rfl)
          · have hil : ¬ i + 1 = n := fun q => h31 (by rw [exi]; exact nI_le (by omega) (by omega))
            have hi0 : ¬ i = 0 := fun q => h24 (by rw [exi, q]; exact Int32.le_refl _)
            exact kf i hlt h15 hi0 hil ls ⟨sm, (lv_sub hl [0, 1, 2] rfl)⟩
      · refine lv_iconst (v := 1) hx hb d_HR_isPatternRow_18 (by decide) ?_
        refine lv_istore_n (lv' := [(2, .int 1), (0, .ref r), (1, .int (nI n)), (3, .int xi)]) hx hb d_HR_isPatternRow_19 rfl hl (by decide) rfl (fun ls hl => ?_)
        refine lv_goto (tgt := 36) hx hb d_HR_isPatternRow_20 (by decide) ?_
        obtain ⟨xi2, exi2⟩ : ∃ y : Int32, y = xi + 1 := ⟨_, rfl⟩
        refine lv_iinc (v := xi2) (lv' := [(3, .int xi2), (2, .int 1), (0, .ref r), (1, .int (nI n))]) hx hb d_HR_isPatternRow_36 hl (k := 3) rfl (by rw [exi2]; rfl) (by decide) rfl (fun ls hl => ?_)
        refine lv_goto (tgt := 4) hx hb d_HR_isPatternRow_39 (by decide) ?_
        exact ih (i + 1) xi2 1 _ (by omega) (by omega) (by rw [exi2, exi]; exact nI_1 i) (Or.inl ⟨rfl, i, by omega, h15⟩) (lt_s hmid (fun q => absurd q h15)) (lv_sub hl [2, 3, 1, 0] rfl)

set_option maxHeartbeats 4000000 in
set_option maxRecDepth 100000 in
/-- isPatternRow(n) -/
theorem c_HR_isPatternRow (l : Launch) (G : ev_G) (w : wd_M) (sz : Nat) (r : Nat) (B E : Nat → Nat) (F : Nat → Nat → Int32) (tot mn wn pn : Int32) (n : Nat) (hc : hr_c G w r B F tot mn wn pn) (hn : n ≤ 12) : ct_i l y_HR_isPatternRow b_HR_isPatternRow 4 (some FieldType.boolean) (rm_ 0 0 0) G w sz [.ref r, .int (nI n)] (fun v u => bl_ v ((∃ j, j < n ∧ ¬ F 3 j = 0) ∧ ∀ j, j < n → F 3 j = 0 → j = 0 ∨ j + 1 = n) ∧ u = w) := by
  refine ct_enter (by decide +kernel) (Nat.le_of_ble_eq_true rfl) ?_
  intro p_ e_ s m below meth c_ hsz S hr hlocks hname hE hW ls hl
  have S : CallFix p_ m c_ b_HR_isPatternRow 4 s _ lw_good "HyphenRows" := S
  have hx := S.1
  have hb := S.2.1
  have hK := hE.1
  have hl : lv_has ls 4 [(0, .ref r), (1, .int (nI n))] := hl
  obtain ⟨hr0, a3, a4, a5, a6, a7, a8⟩ := id hc
  refine lv_iconst (v := 0) hx hb d_HR_isPatternRow_0 (by decide) ?_
  refine lv_istore_n (lv' := [(2, .int 0), (0, .ref r), (1, .int (nI n))]) hx hb d_HR_isPatternRow_1 rfl hl (by decide) rfl (fun ls hl => ?_)
  refine lv_iconst (v := 0) hx hb d_HR_isPatternRow_2 (by decide) ?_
  refine lv_istore_n (lv' := [(3, .int 0), (2, .int 0), (0, .ref r), (1, .int (nI n))]) hx hb d_HR_isPatternRow_3 rfl hl (by decide) rfl (fun ls hl => ?_)
  refine lo_HR_isPatternRow S hE hW hc hn (fun sm hsm hmid ls hl => ?_) (fun i hi h0 h1 h2 ls hl => ?_) (n + 1) 0 0 0 _ (by omega) (Nat.zero_le n) nI_0.symm (Or.inr ⟨rfl, lt_0⟩) lt_0 (lv_sub hl [2, 3, 1, 0] rfl)
  · refine lv_iload_n hx hb d_HR_isPatternRow_42 rfl (lv_at hl 2 rfl) ?_
    exact ct_iret S hr (by rcases hsm with q | q <;> rw [q.1] <;> rfl) hlocks hW (⟨hsm.imp (fun q => ⟨q.1, q.2, hmid⟩) (fun q => ⟨q.1, fun z => by obtain ⟨⟨j, hj, hz⟩, -⟩ := z; exact hz (q.2 j hj)⟩), rfl⟩) (Nat.le_refl _) (Nat.le_refl _) d_HR_isPatternRow_43
  · obtain ⟨sm, hl⟩ := hl
    refine lv_iconst (v := 0) hx hb d_HR_isPatternRow_34 (by decide) ?_
    exact ct_iret S hr rfl hlocks hW (⟨Or.inr ⟨rfl, fun q => (q.2 i hi h0).elim h1 h2⟩, rfl⟩) (Nat.le_refl _) (Nat.le_refl _) d_HR_isPatternRow_35

theorem lt_inv {α : Type} {xs : List α} {i : Nat} {p : α} {P : α → Prop} (h : ∀ (k : Nat) (q : α), k < i → xs[k]? = some q → ¬ P q) (hp : xs[i]? = some p) (hn : ¬ P p) : ∀ (k : Nat) (q : α), k < i + 1 → xs[k]? = some q → ¬ P q := by
  intro k q hk hq
  by_cases hki : k = i
  · rw [hki, hp] at hq
    cases hq
    exact hn
  · exact h k q (by omega) hq

set_option maxHeartbeats 4000000 in
set_option maxRecDepth 100000 in
/-- the loop of patternWithMadeRow -/
theorem lo_HR_patternWithMadeRow {p_ : Program} {l : Launch} {e_ : Env} {s : State} {m : MethodId} {args : Array Value} {below : List Frame} {meth : Method} {c_ : Code} {Q : State → Prop} {G : ev_G} {A : Nat → Prop} (S : CallFix p_ m c_ b_HR_patternWithMadeRow 5 s args lw_good "HyphenRows") (hE : ev_K G A s s.heap) {w : wd_M} {r n lx : Nat} {B E : Nat → Nat} {F : Nat → Nat → Int32} {tot mn wn pn : Int32} {tg : Nat → Nat} {pa : List Nat} {Ps : List hy_P} {ml : List Int32} (hc : hr_c G w r B F tot mn wn pn) (halP : al_ G w (B 1) (E 1) pa) (hpa : pa_ G w tg pa Ps) (hwf : ∀ p ∈ Ps, p.1 < 4 ∧ 1 ≤ p.2.1.length ∧ p.2.1.length ≤ 12) (hPs : Ps.length ≤ 150) (hml : li_ ml (F 3)) (hmn : ml.length = n) (hn : n ≤ 12) (hlx : lx < 4) (kn : (∀ (k : Nat) (p : hy_P), Ps[k]? = some p → ¬ (p.1 = lx ∧ p.2.1 = ml)) → ∀ (H : Heap) (locs : List Loc), wd_W G.1 ev_cl A w s.heap H locs → ∀ ls : Array Slot, lv_has ls 5 [(0, .ref r), (1, .int (nI lx)), (2, .int (nI n))] → W p_ l e_ (rm_ 3 0 0) s m args below meth c_ H locs 0 0 Q (F0 m 69 ls [])) (kh : ∀ (i : Nat) (p : hy_P), i < pa.length → Ps[i]? = some p → (p.1 = lx ∧ p.2.1 = ml) → (∀ (k : Nat) (p : hy_P), k < i → Ps[k]? = some p → ¬ (p.1 = lx ∧ p.2.1 = ml)) → ∀ xi : Int32, xi = nI i → ∀ (H : Heap) (locs : List Loc), wd_W G.1 ev_cl A w s.heap H locs → ∀ ls : Array Slot, lv_has ls 5 [(0, .ref r), (1, .int (nI lx)), (2, .int (nI n)), (3, .int xi)] → W p_ l e_ (rm_ 3 0 0) s m args below meth c_ H locs 0 0 Q (F0 m 61 ls [])) :
    ∀ (fu : Nat) (i : Nat) (xi : Int32) (H : Heap) (locs : List Loc) (ls : Array Slot), pa.length < i + fu → i ≤ pa.length → xi = nI i → (∀ (k : Nat) (p : hy_P), k < i → Ps[k]? = some p → ¬ (p.1 = lx ∧ p.2.1 = ml)) → wd_W G.1 ev_cl A w s.heap H locs → lv_has ls 5 [(0, .ref r), (1, .int (nI lx)), (2, .int (nI n)), (3, .int xi)] → W p_ l e_ (rm_ 3 0 0) s m args below meth c_ H locs 0 0 Q (F0 m 2 ls []) := by
  have hx := S.1
  have hb := S.2.1
  have hK := hE.1
  intro fu
  induction fu with
  | zero =>
    intro i xi H locs ls hfu hi exi hinv hW hl
    exact absurd hfu (by omega)
  | succ fu ih =>
    intro i xi H locs ls hfu hi exi hinv hW hl
    obtain ⟨hr0, a3, a4, a5, a6, a7, a8⟩ := id hc
    obtain ⟨mo1, haP, he1⟩ := id halP
    have hpl := hpa.1
    refine lv_iload_n hx hb d_HR_patternWithMadeRow_2 rfl (lv_at hl 3 rfl) ?_
    refine lv_aload_n hx hb d_HR_patternWithMadeRow_3 rfl (lv_at hl 0 rfl) ?_
    refine wd_get S i_HR hK hW hr0 rfl 1 (by decide) k_HR_16 rfl rfl d_HR_patternWithMadeRow_4 ?_
    refine ct_goi hW (ct_runV (As := []) (rest := [.int xi]) (q := (R_AL, F_AL, 3)) S hE hW (c_AL_size l G _ _ (B 1) (E 1) (nI pa.length) mo1 haP) haP rfl kc_AL_size kz_AL k_HR_54 ki_AL_size kv_AL_size kd_AL_size ⟨Nat.le_of_ble_eq_true rfl, Nat.le_of_ble_eq_true rfl⟩ hl.1 (Nat.le_of_ble_eq_true rfl) d_HR_patternWithMadeRow_7 ⟨Nat.le_of_ble_eq_true rfl, Nat.le_of_ble_eq_true rfl⟩) (fun v_3 u_1 H locs hp_2 hW => ?_)
    obtain ⟨hv, hu_4⟩ := hp_2
    rw [hu_4] at hW
    rw [hv]
    refine lv_icmp_ge (tgt := 69) hx hb d_HR_patternWithMadeRow_10 (by decide) (fun h10 => ?_) (fun h10 => ?_)
    · exact kn (fun k p hk => hinv k p (by have hkl := (List.getElem?_eq_some_iff.mp hk).1; rw [exi] at h10; have := (nI_leI (by omega) (by omega)).mp h10; omega) hk) _ _ hW ls (lv_sub hl [0, 1, 2] rfl)
    · have hlt : i < pa.length := by rw [exi] at h10; exact Nat.lt_of_not_le (fun q => h10 (nI_le q (by omega)))
      obtain ⟨p, hpi⟩ : ∃ p, Ps[i]? = some p := ⟨_, List.getElem?_eq_getElem (by omega)⟩
      have hpm := hwf p (List.mem_of_getElem? hpi)
      obtain ⟨a, b, d, f, g, e1, ⟨p1, p2, p3, p4, p5⟩, -⟩ := hpa.2 i p hpi
      refine lv_aload_n hx hb d_HR_patternWithMadeRow_13 rfl (lv_at hl 0 rfl) ?_
      refine wd_get S i_HR hK hW hr0 rfl 1 (by decide) k_HR_16 rfl rfl d_HR_patternWithMadeRow_14 ?_
      refine lv_iload_n hx hb d_HR_patternWithMadeRow_17 rfl (lv_at hl 3 rfl) ?_
      rw [exi]
      refine ct_goq hW (ct_runV (As := [.int (nI i)]) (rest := []) (q := (R_AL, F_AL, 3)) S hE hW (c_AL_get l G _ _ (B 1) (E 1) pa i halP hlt) haP rfl kc_AL_get kz_AL k_HR_75 ki_AL_get kv_AL_get kd_AL_get ⟨Nat.le_of_ble_eq_true rfl, Nat.le_of_ble_eq_true rfl⟩ hl.1 (Nat.le_of_ble_eq_true rfl) d_HR_patternWithMadeRow_18 ⟨Nat.le_of_ble_eq_true rfl, Nat.le_of_ble_eq_true rfl⟩) (fun v_7 u_5 H locs hp_6 hW => ?_)
      obtain ⟨hv2, hu_8⟩ := hp_6
      rw [hu_8] at hW
      rw [hv2, e1]
      refine W.eq (g2 := F0 m 21 ls [.ref a]) rfl ?_
      refine wd_cast S (T := F_Pa) (N := 3) k_HR_109 hK hW p1 rfl d_HR_patternWithMadeRow_21 ?_
      refine lv_astore (lv' := [(4, .ref a), (0, .ref r), (1, .int (nI lx)), (2, .int (nI n)), (3, .int xi)]) hx hb d_HR_patternWithMadeRow_24 hl (by decide) rfl (fun ls hl => ?_)
      refine lv_aload hx hb d_HR_patternWithMadeRow_26 (lv_at hl 0 rfl) ?_
      refine wd_get S i_Pa hK hW p1 rfl 0 (by decide) k_HR_155 rfl rfl d_HR_patternWithMadeRow_28 ?_
      refine lv_iload_n hx hb d_HR_patternWithMadeRow_31 rfl (lv_at hl 2 rfl) ?_
      refine lv_icmp_ne (tgt := 63) hx hb d_HR_patternWithMadeRow_32 (by decide) (fun h32 => ?_) (fun h32 => ?_)
      · obtain ⟨xi2, exi2⟩ : ∃ y : Int32, y = xi + 1 := ⟨_, rfl⟩
        refine lv_iinc (v := xi2) (lv' := [(3, .int xi2), (4, .ref a), (0, .ref r), (1, .int (nI lx)), (2, .int (nI n))]) hx hb d_HR_patternWithMadeRow_63 hl (k := 4) rfl (by rw [exi2]; rfl) (by decide) rfl (fun ls hl => ?_)
        have hno : ¬ (p.1 = lx ∧ p.2.1 = ml) := fun q => h32 (by rw [q.1])
        refine lv_goto (tgt := 2) hx hb d_HR_patternWithMadeRow_66 (by decide) ?_
        exact ih (i + 1) xi2 _ _ _ (by omega) hlt (by rw [exi2, exi]; exact nI_1 i) (lt_inv hinv hpi hno) hW (lv_sub hl [2, 3, 4, 0] rfl)
      · have hla : p.1 = lx := (nI_eq (by omega) (by omega)).mp h32
        refine lv_aload hx hb d_HR_patternWithMadeRow_35 (lv_at hl 0 rfl) ?_
        refine wd_get S i_Pa hK hW p1 rfl 1 (by decide) k_HR_158 rfl rfl d_HR_patternWithMadeRow_37 ?_
        refine wd_alen S hK hW 0 p2 rfl d_HR_patternWithMadeRow_40 ?_
        refine lv_iload_n hx hb d_HR_patternWithMadeRow_41 rfl (lv_at hl 3 rfl) ?_
        refine lv_icmp_ne (tgt := 63) hx hb d_HR_patternWithMadeRow_42 (by decide) (fun h42 => ?_) (fun h42 => ?_)
        · obtain ⟨xi2, exi2⟩ : ∃ y : Int32, y = xi + 1 := ⟨_, rfl⟩
          refine lv_iinc (v := xi2) (lv' := [(3, .int xi2), (4, .ref a), (0, .ref r), (1, .int (nI lx)), (2, .int (nI n))]) hx hb d_HR_patternWithMadeRow_63 hl (k := 4) rfl (by rw [exi2]; rfl) (by decide) rfl (fun ls hl => ?_)
          have hno : ¬ (p.1 = lx ∧ p.2.1 = ml) := fun q => h42 (by rw [q.2, hmn])
          refine lv_goto (tgt := 2) hx hb d_HR_patternWithMadeRow_66 (by decide) ?_
          exact ih (i + 1) xi2 _ _ _ (by omega) hlt (by rw [exi2, exi]; exact nI_1 i) (lt_inv hinv hpi hno) hW (lv_sub hl [2, 3, 4, 0] rfl)
        · have hsz2 : p.2.1.length = n := (nI_eq (by omega) (by omega)).mp h42
          refine lv_aload hx hb d_HR_patternWithMadeRow_45 (lv_at hl 0 rfl) ?_
          refine wd_get S i_Pa hK hW p1 rfl 1 (by decide) k_HR_158 rfl rfl d_HR_patternWithMadeRow_47 ?_
          refine lv_aload_n hx hb d_HR_patternWithMadeRow_50 rfl (lv_at hl 1 rfl) ?_
          refine wd_get S i_HR hK hW hr0 rfl 4 (by decide) k_HR_26 rfl rfl d_HR_patternWithMadeRow_51 ?_
          refine lv_iconst (v := 0) hx hb d_HR_patternWithMadeRow_54 (by decide) ?_
          refine ct_goi hW (ct_runS (As := [.ref b, .ref (B 3), .int 0]) (rest := []) S hE hW (c_HR_standsAt l G _ _ b (B 3) p.2.1.length 12 0 f (F 3) p2 a3 (by omega) (by omega) (by omega)) kc_HR_standsAt kz_HR k_HR_161 ks_HR_standsAt kd_HR_standsAt ⟨Nat.le_of_ble_eq_true rfl, Nat.le_of_ble_eq_true rfl⟩ hl.1 (Nat.le_of_ble_eq_true rfl) d_HR_patternWithMadeRow_55 ⟨Nat.le_of_ble_eq_true rfl, Nat.le_of_ble_eq_true rfl⟩) (fun v_11 u_9 H locs hp_10 hW => ?_)
          obtain ⟨hv3, hu_12⟩ := hp_10
          rw [hu_12] at hW
          refine lv_if_eq (tgt := 63) hx hb d_HR_patternWithMadeRow_58 (by decide) (fun h58 => ?_) (fun h58 => ?_)
          · obtain ⟨xi2, exi2⟩ : ∃ y : Int32, y = xi + 1 := ⟨_, rfl⟩
            refine lv_iinc (v := xi2) (lv' := [(3, .int xi2), (4, .ref a), (0, .ref r), (1, .int (nI lx)), (2, .int (nI n))]) hx hb d_HR_patternWithMadeRow_63 hl (k := 4) rfl (by rw [exi2]; rfl) (by decide) rfl (fun ls hl => ?_)
            have hno : ¬ (p.1 = lx ∧ p.2.1 = ml) := fun q => bl_f hv3 h58 ⟨by omega, fun j hj => by rw [Nat.zero_add, li_get hml (by rw [← q.2]; exact hj), ← q.2]; exact (li_get p4 hj).symm⟩
            refine lv_goto (tgt := 2) hx hb d_HR_patternWithMadeRow_66 (by decide) ?_
            exact ih (i + 1) xi2 _ _ _ (by omega) hlt (by rw [exi2, exi]; exact nI_1 i) (lt_inv hinv hpi hno) hW (lv_sub hl [2, 3, 4, 0] rfl)
          · have hall := bl_t hv3 h58
            have hml2 : p.2.1 = ml := li_one p4 hml (by omega) (fun j hj => by rw [← hall.2 j hj, Nat.zero_add])
            exact kh i p hlt hpi ⟨hla, hml2⟩ (fun k q hk hq => hinv k q hk hq) xi exi _ _ hW ls (lv_sub hl [1, 2, 3, 4] rfl)

set_option maxHeartbeats 4000000 in
set_option maxRecDepth 100000 in
/-- patternWithMadeRow(lx, n) -/
theorem c_HR_patternWithMadeRow (l : Launch) (G : ev_G) (w : wd_M) (sz : Nat) (r : Nat) (B E : Nat → Nat) (F : Nat → Nat → Int32) (tot mn wn pn : Int32) (n lx : Nat) (tg : Nat → Nat) (pa : List Nat) (Ps : List hy_P) (ml : List Int32) (hc : hr_c G w r B F tot mn wn pn) (halP : al_ G w (B 1) (E 1) pa) (hpa : pa_ G w tg pa Ps) (hwf : ∀ p ∈ Ps, p.1 < 4 ∧ 1 ≤ p.2.1.length ∧ p.2.1.length ≤ 12) (hPs : Ps.length ≤ 150) (hml : li_ ml (F 3)) (hmn : ml.length = n) (hn : n ≤ 12) (hlx : lx < 4) : ct_i l y_HR_patternWithMadeRow b_HR_patternWithMadeRow 5 (some FieldType.int) (rm_ 3 0 0) G w sz [.ref r, .int (nI lx), .int (nI n)] (fun v u => fm_ Ps (fun p => p.1 = lx ∧ p.2.1 = ml) v ∧ u = w) := by
  refine ct_enter (by decide +kernel) (Nat.le_of_ble_eq_true rfl) ?_
  intro p_ e_ s m below meth c_ hsz S hr hlocks hname hE hW ls hl
  have S : CallFix p_ m c_ b_HR_patternWithMadeRow 5 s _ lw_good "HyphenRows" := S
  have hx := S.1
  have hb := S.2.1
  have hK := hE.1
  have hl : lv_has ls 5 [(0, .ref r), (1, .int (nI lx)), (2, .int (nI n))] := hl
  refine lv_iconst (v := 0) hx hb d_HR_patternWithMadeRow_0 (by decide) ?_
  refine lv_istore_n (lv' := [(3, .int 0), (0, .ref r), (1, .int (nI lx)), (2, .int (nI n))]) hx hb d_HR_patternWithMadeRow_1 rfl hl (by decide) rfl (fun ls hl => ?_)
  refine lo_HR_patternWithMadeRow S hE hc halP hpa hwf hPs hml hmn hn hlx (fun hnone H locs hW ls hl => ?_) (fun i p hi hpi hm hinv xi exi H locs hW ls hl => ?_) (pa.length + 1) 0 0 _ _ _ (by omega) (Nat.zero_le _) nI_0.symm (fun k p hk => absurd hk (Nat.not_lt_zero k)) hW (lv_sub hl [1, 2, 3, 0] rfl)
  · refine lv_iconst (v := -1) hx hb d_HR_patternWithMadeRow_69 (by decide) ?_
    exact ct_iret S hr rfl hlocks hW (⟨Or.inl ⟨rfl, hnone⟩, rfl⟩) (Nat.le_refl _) (Nat.le_refl _) d_HR_patternWithMadeRow_70
  · refine lv_iload_n hx hb d_HR_patternWithMadeRow_61 rfl (lv_at hl 3 rfl) ?_
    exact ct_iret S hr rfl hlocks hW (⟨Or.inr ⟨i, p, exi, hpi, hm, hinv⟩, rfl⟩) (Nat.le_refl _) (Nat.le_refl _) d_HR_patternWithMadeRow_62

set_option maxHeartbeats 4000000 in
set_option maxRecDepth 100000 in
/-- the loop of exceptionWithWordsLetters -/
theorem lo_HR_exceptionWithWordsLetters {p_ : Program} {l : Launch} {e_ : Env} {s : State} {m : MethodId} {args : Array Value} {below : List Frame} {meth : Method} {c_ : Code} {Q : State → Prop} {G : ev_G} {A : Nat → Prop} (S : CallFix p_ m c_ b_HR_exceptionWithWordsLetters 4 s args lw_good "HyphenRows") (hE : ev_K G A s s.heap) {w : wd_M} {r lx : Nat} {B E : Nat → Nat} {F : Nat → Nat → Int32} {tot mn pn : Int32} {tg : Nat → Nat} {ta : List Nat} {Ts : List hy_T} {lt : List Int32} (hc : hr_c G w r B F tot mn (nI lt.length) pn) (halT : al_ G w (B 2) (E 2) ta) (hta : ta_ G w tg ta Ts) (hwf : ∀ t ∈ Ts, t.1 < 4 ∧ t.2.1.length ≤ 30) (hTs : Ts.length ≤ 40) (hrl : li_ lt (fun j => F 6 (j + 1))) (hlt30 : lt.length ≤ 30) (hlx : lx < 4) (kn : (∀ (k : Nat) (p : hy_T), Ts[k]? = some p → ¬ hy_tm lx lt p) → ∀ (H : Heap) (locs : List Loc), wd_W G.1 ev_cl A w s.heap H locs → ∀ ls : Array Slot, lv_has ls 4 [(0, .ref r), (1, .int (nI lx))] → W p_ l e_ (rm_ 3 0 0) s m args below meth c_ H locs 0 0 Q (F0 m 68 ls [])) (kh : ∀ (i : Nat) (p : hy_T), i < ta.length → Ts[i]? = some p → hy_tm lx lt p → (∀ (k : Nat) (p : hy_T), k < i → Ts[k]? = some p → ¬ hy_tm lx lt p) → ∀ xi : Int32, xi = nI i → ∀ (H : Heap) (locs : List Loc), wd_W G.1 ev_cl A w s.heap H locs → ∀ ls : Array Slot, lv_has ls 4 [(0, .ref r), (1, .int (nI lx)), (2, .int xi)] → W p_ l e_ (rm_ 3 0 0) s m args below meth c_ H locs 0 0 Q (F0 m 60 ls [])) :
    ∀ (fu : Nat) (i : Nat) (xi : Int32) (H : Heap) (locs : List Loc) (ls : Array Slot), ta.length < i + fu → i ≤ ta.length → xi = nI i → (∀ (k : Nat) (p : hy_T), k < i → Ts[k]? = some p → ¬ hy_tm lx lt p) → wd_W G.1 ev_cl A w s.heap H locs → lv_has ls 4 [(0, .ref r), (1, .int (nI lx)), (2, .int xi)] → W p_ l e_ (rm_ 3 0 0) s m args below meth c_ H locs 0 0 Q (F0 m 2 ls []) := by
  have hx := S.1
  have hb := S.2.1
  have hK := hE.1
  intro fu
  induction fu with
  | zero =>
    intro i xi H locs ls hfu hi exi hinv hW hl
    exact absurd hfu (by omega)
  | succ fu ih =>
    intro i xi H locs ls hfu hi exi hinv hW hl
    obtain ⟨hr0, a3, a4, a5, a6, a7, a8⟩ := id hc
    obtain ⟨mo2, haT, he2⟩ := id halT
    have hpl := hta.1
    refine lv_iload_n hx hb d_HR_exceptionWithWordsLetters_2 rfl (lv_at hl 2 rfl) ?_
    refine lv_aload_n hx hb d_HR_exceptionWithWordsLetters_3 rfl (lv_at hl 0 rfl) ?_
    refine wd_get S i_HR hK hW hr0 rfl 2 (by decide) k_HR_19 rfl rfl d_HR_exceptionWithWordsLetters_4 ?_
    refine ct_goi hW (ct_runV (As := []) (rest := [.int xi]) (q := (R_AL, F_AL, 3)) S hE hW (c_AL_size l G _ _ (B 2) (E 2) (nI ta.length) mo2 haT) haT rfl kc_AL_size kz_AL k_HR_54 ki_AL_size kv_AL_size kd_AL_size ⟨Nat.le_of_ble_eq_true rfl, Nat.le_of_ble_eq_true rfl⟩ hl.1 (Nat.le_of_ble_eq_true rfl) d_HR_exceptionWithWordsLetters_7 ⟨Nat.le_of_ble_eq_true rfl, Nat.le_of_ble_eq_true rfl⟩) (fun v_3 u_1 H locs hp_2 hW => ?_)
    obtain ⟨hv, hu_4⟩ := hp_2
    rw [hu_4] at hW
    rw [hv]
    refine lv_icmp_ge (tgt := 68) hx hb d_HR_exceptionWithWordsLetters_10 (by decide) (fun h10 => ?_) (fun h10 => ?_)
    · exact kn (fun k p hk => hinv k p (by have hkl := (List.getElem?_eq_some_iff.mp hk).1; rw [exi] at h10; have := (nI_leI (by omega) (by omega)).mp h10; omega) hk) _ _ hW ls (lv_sub hl [0, 1] rfl)
    · have hlt : i < ta.length := by rw [exi] at h10; exact Nat.lt_of_not_le (fun q => h10 (nI_le q (by omega)))
      obtain ⟨p, hpi⟩ : ∃ p, Ts[i]? = some p := ⟨_, List.getElem?_eq_getElem (by omega)⟩
      have hpm := hwf p (List.mem_of_getElem? hpi)
      obtain ⟨a, b, f, e1, ⟨p1, p2, p4⟩, -⟩ := hta.2.2 i p hpi
      refine lv_aload_n hx hb d_HR_exceptionWithWordsLetters_13 rfl (lv_at hl 0 rfl) ?_
      refine wd_get S i_HR hK hW hr0 rfl 2 (by decide) k_HR_19 rfl rfl d_HR_exceptionWithWordsLetters_14 ?_
      refine lv_iload_n hx hb d_HR_exceptionWithWordsLetters_17 rfl (lv_at hl 2 rfl) ?_
      rw [exi]
      refine ct_goq hW (ct_runV (As := [.int (nI i)]) (rest := []) (q := (R_AL, F_AL, 3)) S hE hW (c_AL_get l G _ _ (B 2) (E 2) ta i halT hlt) haT rfl kc_AL_get kz_AL k_HR_75 ki_AL_get kv_AL_get kd_AL_get ⟨Nat.le_of_ble_eq_true rfl, Nat.le_of_ble_eq_true rfl⟩ hl.1 (Nat.le_of_ble_eq_true rfl) d_HR_exceptionWithWordsLetters_18 ⟨Nat.le_of_ble_eq_true rfl, Nat.le_of_ble_eq_true rfl⟩) (fun v_7 u_5 H locs hp_6 hW => ?_)
      obtain ⟨hv2, hu_8⟩ := hp_6
      rw [hu_8] at hW
      rw [hv2, e1]
      refine W.eq (g2 := F0 m 21 ls [.ref a]) rfl ?_
      refine wd_cast S (T := F_To) (N := 3) k_HR_131 hK hW p1 rfl d_HR_exceptionWithWordsLetters_21 ?_
      refine lv_astore_n (lv' := [(3, .ref a), (0, .ref r), (1, .int (nI lx)), (2, .int xi)]) hx hb d_HR_exceptionWithWordsLetters_24 rfl hl (by decide) rfl (fun ls hl => ?_)
      refine lv_aload_n hx hb d_HR_exceptionWithWordsLetters_25 rfl (lv_at hl 0 rfl) ?_
      refine wd_get S i_To hK hW p1 rfl 0 (by decide) k_HR_172 rfl rfl d_HR_exceptionWithWordsLetters_26 ?_
      refine lv_iload_n hx hb d_HR_exceptionWithWordsLetters_29 rfl (lv_at hl 2 rfl) ?_
      refine lv_icmp_ne (tgt := 62) hx hb d_HR_exceptionWithWordsLetters_30 (by decide) (fun h30 => ?_) (fun h30 => ?_)
      · obtain ⟨xi2, exi2⟩ : ∃ y : Int32, y = xi + 1 := ⟨_, rfl⟩
        refine lv_iinc (v := xi2) (lv' := [(2, .int xi2), (3, .ref a), (0, .ref r), (1, .int (nI lx))]) hx hb d_HR_exceptionWithWordsLetters_62 hl (k := 3) rfl (by rw [exi2]; rfl) (by decide) rfl (fun ls hl => ?_)
        have hno : ¬ hy_tm lx lt p := fun q => h30 (by rw [q.1])
        refine lv_goto (tgt := 2) hx hb d_HR_exceptionWithWordsLetters_65 (by decide) ?_
        exact ih (i + 1) xi2 _ _ _ (by omega) hlt (by rw [exi2, exi]; exact nI_1 i) (lt_inv hinv hpi hno) hW (lv_sub hl [2, 3, 0] rfl)
      · have hla : p.1 = lx := (nI_eq (by omega) (by omega)).mp h30
        refine lv_aload_n hx hb d_HR_exceptionWithWordsLetters_33 rfl (lv_at hl 0 rfl) ?_
        refine wd_get S i_To hK hW p1 rfl 1 (by decide) k_HR_173 rfl rfl d_HR_exceptionWithWordsLetters_34 ?_
        refine wd_alen S hK hW 0 p2 rfl d_HR_exceptionWithWordsLetters_37 ?_
        refine lv_aload_n hx hb d_HR_exceptionWithWordsLetters_38 rfl (lv_at hl 1 rfl) ?_
        refine wd_get S i_HR hK hW hr0 rfl 8 (by decide) k_HR_39 rfl rfl d_HR_exceptionWithWordsLetters_39 ?_
        refine lv_icmp_ne (tgt := 62) hx hb d_HR_exceptionWithWordsLetters_42 (by decide) (fun h42 => ?_) (fun h42 => ?_)
        · obtain ⟨xi2, exi2⟩ : ∃ y : Int32, y = xi + 1 := ⟨_, rfl⟩
          refine lv_iinc (v := xi2) (lv' := [(2, .int xi2), (3, .ref a), (0, .ref r), (1, .int (nI lx))]) hx hb d_HR_exceptionWithWordsLetters_62 hl (k := 3) rfl (by rw [exi2]; rfl) (by decide) rfl (fun ls hl => ?_)
          have hno : ¬ hy_tm lx lt p := fun q => h42 (by rw [q.2])
          refine lv_goto (tgt := 2) hx hb d_HR_exceptionWithWordsLetters_65 (by decide) ?_
          exact ih (i + 1) xi2 _ _ _ (by omega) hlt (by rw [exi2, exi]; exact nI_1 i) (lt_inv hinv hpi hno) hW (lv_sub hl [2, 3, 0] rfl)
        · have hsz2 : p.2.1.length = lt.length := (nI_eq (by omega) (by omega)).mp h42
          refine lv_aload_n hx hb d_HR_exceptionWithWordsLetters_45 rfl (lv_at hl 0 rfl) ?_
          refine wd_get S i_To hK hW p1 rfl 1 (by decide) k_HR_173 rfl rfl d_HR_exceptionWithWordsLetters_46 ?_
          refine lv_aload_n hx hb d_HR_exceptionWithWordsLetters_49 rfl (lv_at hl 1 rfl) ?_
          refine wd_get S i_HR hK hW hr0 rfl 9 (by decide) k_HR_42 rfl rfl d_HR_exceptionWithWordsLetters_50 ?_
          refine lv_iconst (v := 1) hx hb d_HR_exceptionWithWordsLetters_53 (by decide) ?_
          refine ct_goi hW (ct_runS (As := [.ref b, .ref (B 6), .int 1]) (rest := []) S hE hW (c_HR_standsAt l G _ _ b (B 6) p.2.1.length 32 1 f (F 6) p2 a6 (by omega) (by omega) (by omega)) kc_HR_standsAt kz_HR k_HR_161 ks_HR_standsAt kd_HR_standsAt ⟨Nat.le_of_ble_eq_true rfl, Nat.le_of_ble_eq_true rfl⟩ hl.1 (Nat.le_of_ble_eq_true rfl) d_HR_exceptionWithWordsLetters_54 ⟨Nat.le_of_ble_eq_true rfl, Nat.le_of_ble_eq_true rfl⟩) (fun v_11 u_9 H locs hp_10 hW => ?_)
          obtain ⟨hv3, hu_12⟩ := hp_10
          rw [hu_12] at hW
          refine lv_if_eq (tgt := 62) hx hb d_HR_exceptionWithWordsLetters_57 (by decide) (fun h57 => ?_) (fun h57 => ?_)
          · obtain ⟨xi2, exi2⟩ : ∃ y : Int32, y = xi + 1 := ⟨_, rfl⟩
            refine lv_iinc (v := xi2) (lv' := [(2, .int xi2), (3, .ref a), (0, .ref r), (1, .int (nI lx))]) hx hb d_HR_exceptionWithWordsLetters_62 hl (k := 3) rfl (by rw [exi2]; rfl) (by decide) rfl (fun ls hl => ?_)
            have hno : ¬ hy_tm lx lt p := fun q => bl_f hv3 h57 ⟨by omega, fun j hj => by have h9 := li_get hrl (i := j) (by rw [← q.2]; exact hj); rw [Nat.add_comm 1 j]; exact h9.trans (by rw [← q.2]; exact (li_get p4 hj).symm)⟩
            refine lv_goto (tgt := 2) hx hb d_HR_exceptionWithWordsLetters_65 (by decide) ?_
            exact ih (i + 1) xi2 _ _ _ (by omega) hlt (by rw [exi2, exi]; exact nI_1 i) (lt_inv hinv hpi hno) hW (lv_sub hl [2, 3, 0] rfl)
          · have hall := bl_t hv3 h57
            have hml2 : p.2.1 = lt := li_one p4 hrl hsz2 (fun j hj => by rw [← hall.2 j hj, Nat.add_comm])
            exact kh i p hlt hpi ⟨hla, hml2⟩ (fun k q hk hq => hinv k q hk hq) xi exi _ _ hW ls (lv_sub hl [1, 2, 3] rfl)

set_option maxHeartbeats 4000000 in
set_option maxRecDepth 100000 in
/-- exceptionWithWordsLetters(lx): the letters lt stand in the row -/
theorem c_HR_exceptionWithWordsLetters (l : Launch) (G : ev_G) (w : wd_M) (sz : Nat) (r : Nat) (B E : Nat → Nat) (F : Nat → Nat → Int32) (tot mn pn : Int32) (lx : Nat) (tg : Nat → Nat) (ta : List Nat) (Ts : List hy_T) (lt : List Int32) (hc : hr_c G w r B F tot mn (nI lt.length) pn) (halT : al_ G w (B 2) (E 2) ta) (hta : ta_ G w tg ta Ts) (hwf : ∀ t ∈ Ts, t.1 < 4 ∧ t.2.1.length ≤ 30) (hTs : Ts.length ≤ 40) (hrl : li_ lt (fun j => F 6 (j + 1))) (hlt30 : lt.length ≤ 30) (hlx : lx < 4) : ct_i l y_HR_exceptionWithWordsLetters b_HR_exceptionWithWordsLetters 4 (some FieldType.int) (rm_ 3 0 0) G w sz [.ref r, .int (nI lx)] (fun v u => fm_ Ts (hy_tm lx lt) v ∧ u = w) := by
  refine ct_enter (by decide +kernel) (Nat.le_of_ble_eq_true rfl) ?_
  intro p_ e_ s m below meth c_ hsz S hr hlocks hname hE hW ls hl
  have S : CallFix p_ m c_ b_HR_exceptionWithWordsLetters 4 s _ lw_good "HyphenRows" := S
  have hx := S.1
  have hb := S.2.1
  have hK := hE.1
  have hl : lv_has ls 4 [(0, .ref r), (1, .int (nI lx))] := hl
  refine lv_iconst (v := 0) hx hb d_HR_exceptionWithWordsLetters_0 (by decide) ?_
  refine lv_istore_n (lv' := [(2, .int 0), (0, .ref r), (1, .int (nI lx))]) hx hb d_HR_exceptionWithWordsLetters_1 rfl hl (by decide) rfl (fun ls hl => ?_)
  refine lo_HR_exceptionWithWordsLetters S hE hc halT hta hwf hTs hrl hlt30 hlx (fun hnone H locs hW ls hl => ?_) (fun i p hi hpi hm hinv xi exi H locs hW ls hl => ?_) (ta.length + 1) 0 0 _ _ _ (by omega) (Nat.zero_le _) nI_0.symm (fun k p hk => absurd hk (Nat.not_lt_zero k)) hW (lv_sub hl [1, 2, 0] rfl)
  · refine lv_iconst (v := -1) hx hb d_HR_exceptionWithWordsLetters_68 (by decide) ?_
    exact ct_iret S hr rfl hlocks hW (⟨Or.inl ⟨rfl, hnone⟩, rfl⟩) (Nat.le_refl _) (Nat.le_refl _) d_HR_exceptionWithWordsLetters_69
  · refine lv_iload_n hx hb d_HR_exceptionWithWordsLetters_60 rfl (lv_at hl 2 rfl) ?_
    exact ct_iret S hr rfl hlocks hW (⟨Or.inr ⟨i, p, exi, hpi, hm, hinv⟩, rfl⟩) (Nat.le_refl _) (Nat.le_refl _) d_HR_exceptionWithWordsLetters_61
end
section
/-! THE CLASS: spelling the word; the digits of the row. -/

set_option maxHeartbeats 4000000 in
set_option maxRecDepth 100000 in
/-- staysWhole(language) -/
theorem c_HR_staysWhole (l : Launch) (G : ev_G) (w : wd_M) (sz : Nat) (r : Nat) (B : Nat → Nat) (F : Nat → Nat → Int32) (tot mn pn : Int32) (a b z : Nat) (lg : hy_L) (wd : List Int32) (hc : hr_c G w r B F tot mn (nI wd.length) pn)(hla : la_1 G w a b z lg)(hwd : li_ wd (F 5)) (hwl : wd.length ≤ 30) (hws : ∀ x ∈ wd, ∃ s : Nat, s < 256 ∧ x = nI s) : ct_i l y_HR_staysWhole b_HR_staysWhole 2 (some FieldType.boolean) (rm_ 0 0 0) G w sz [.ref r, .ref a] (fun v u => bl_ v (hy_wh lg wd) ∧ u = w) := by
  refine ct_enter (by decide +kernel) (Nat.le_of_ble_eq_true rfl) ?_
  intro p_ e_ s m below meth c_ hsz S hr hlocks hname hE hW ls hl
  have S : CallFix p_ m c_ b_HR_staysWhole 2 s _ lw_good "HyphenRows" := S
  have hx := S.1
  have hb := S.2.1
  have hK := hE.1
  have hl : lv_has ls 2 [(0, .ref r), (1, .ref a)] := hl
  obtain ⟨hr0, a3, a4, a5, a6, a7, a8⟩ := id hc
  obtain ⟨q1, q2, q3⟩ := id hla
  refine lv_aload_n hx hb d_HR_staysWhole_0 rfl (lv_at hl 0 rfl) ?_
  refine wd_get S i_HR hK hW hr0 rfl 8 (by decide) k_HR_39 rfl rfl d_HR_staysWhole_1 ?_
  refine lv_if_le (tgt := 32) hx hb d_HR_staysWhole_4 (by decide) (fun h4 => ?_) (fun h4 => ?_)
  · refine lv_iconst (v := 0) hx hb d_HR_staysWhole_32 (by decide) ?_
    exact ct_iret S hr rfl hlocks hW (⟨Or.inr ⟨rfl, fun q => by obtain ⟨-, s9, e9, -⟩ := q; have h9 := (List.getElem?_eq_some_iff.mp e9).1; have h8 := (nI_leI (a := wd.length) (b := 0) (by omega) (by omega)).mp h4; omega⟩, rfl⟩) (Nat.le_refl _) (Nat.le_refl _) d_HR_staysWhole_33
  · have hpos : 0 < wd.length := Nat.pos_of_ne_zero (fun q => h4 (by rw [q]; exact Int32.le_refl _))
    obtain ⟨s0, hs0⟩ : ∃ s0, wd[0]? = some s0 := ⟨_, List.getElem?_eq_getElem hpos⟩
    obtain ⟨sn, hsn, es0⟩ := hws s0 (List.mem_of_getElem? hs0)
    refine lv_aload_n hx hb d_HR_staysWhole_7 rfl (lv_at hl 1 rfl) ?_
    refine wd_get S i_La hK hW q1 rfl 4 (by decide) k_HR_95 rfl rfl d_HR_staysWhole_8 ?_
    refine lv_if_eq (tgt := 32) hx hb d_HR_staysWhole_11 (by decide) (fun h11 => ?_) (fun h11 => ?_)
    · refine lv_iconst (v := 0) hx hb d_HR_staysWhole_32 (by decide) ?_
      exact ct_iret S hr rfl hlocks hW (⟨Or.inr ⟨rfl, fun q => q.1 h11⟩, rfl⟩) (Nat.le_refl _) (Nat.le_refl _) d_HR_staysWhole_33
    · refine lv_aload_n hx hb d_HR_staysWhole_14 rfl (lv_at hl 1 rfl) ?_
      refine wd_get S i_La hK hW q1 rfl 1 (by decide) k_HR_82 rfl rfl d_HR_staysWhole_15 ?_
      refine lv_aload_n hx hb d_HR_staysWhole_18 rfl (lv_at hl 0 rfl) ?_
      refine wd_get S i_HR hK hW hr0 rfl 7 (by decide) k_HR_36 rfl rfl d_HR_staysWhole_19 ?_
      refine lv_iconst (v := 0) hx hb d_HR_staysWhole_22 (by decide) ?_
      refine wd_iald S hK hW 0 a5 rfl (vp_in_nI (n := 0) (by omega) (by omega)) d_HR_staysWhole_23 ?_
      rw [show F 5 ((0 : Int32)).toNatClampNeg = nI sn from (hwd 0 s0 hs0).trans es0]
      refine wd_zald S hK hW 1 q3 rfl (vp_in_nI hsn (by omega)) d_HR_staysWhole_24 ?_
      refine lv_if_eq (tgt := 32) hx hb d_HR_staysWhole_25 (by decide) (fun h25 => ?_) (fun h25 => ?_)
      · refine lv_iconst (v := 0) hx hb d_HR_staysWhole_32 (by decide) ?_
        exact ct_iret S hr rfl hlocks hW (⟨Or.inr ⟨rfl, fun q => by obtain ⟨-, s9, e9, n9⟩ := q; rw [hs0] at e9; cases e9; exact n9 (by rw [es0]; exact h25)⟩, rfl⟩) (Nat.le_refl _) (Nat.le_refl _) d_HR_staysWhole_33
      · refine lv_iconst (v := 1) hx hb d_HR_staysWhole_28 (by decide) ?_
        refine lv_goto (tgt := 33) hx hb d_HR_staysWhole_29 (by decide) ?_
        exact ct_iret S hr rfl hlocks hW (⟨Or.inl ⟨rfl, h11, s0, hs0, by rw [es0]; exact h25⟩, rfl⟩) (Nat.le_refl _) (Nat.le_refl _) d_HR_staysWhole_33

def sp_v (lg : hy_L) (wd : List Int32) (g : Nat → Int32) (n : Nat) : Prop := ∀ (j : Nat) (x : Int32), j < n → wd[j]? = some x → g (j + 1) = lg.1 x.toNatClampNeg ∧ ¬ lg.1 x.toNatClampNeg = 0
theorem sp_inv {lg : hy_L} {wd : List Int32} {g : Nat → Int32} {i : Nat} {s x : Int32} (h : sp_v lg wd g i) (hs : wd[i]? = some s) (hx : x = lg.1 s.toNatClampNeg) (h0 : ¬ x = 0) : sp_v lg wd (upd g (i + 1) x) (i + 1) := by
  intro j y hj hy
  by_cases hji : j = i
  · subst hji
    rw [hs] at hy
    cases hy
    rw [pk_us, hx]
    exact ⟨rfl, by rw [← hx]; exact h0⟩
  · rw [pk_un (by omega)]
    exact h j y (by omega) hy
/-- the row, once it is spelled -/
theorem sp_row {lg : hy_L} {wd : List Int32} {g : Nat → Int32} (h : sp_v lg wd g wd.length) (h0 : g 0 = 0) : hy_sp lg wd ∧ li_ (hy_row (hy_let lg wd)) (upd g (wd.length + 1) 0) := by
  have hl : (hy_let lg wd).length = wd.length := List.length_map _
  refine ⟨fun x hx => ?_, fun i x hx => ?_⟩
  · obtain ⟨s, hs, rfl⟩ := List.mem_map.mp hx
    obtain ⟨j, hj⟩ := List.getElem?_of_mem hs
    exact (h j s (List.getElem?_eq_some_iff.mp hj).1 hj).2
  · cases i with
    | zero =>
      cases hx
      rw [pk_un (by omega)]
      exact h0
    | succ i =>
      have hx : (hy_let lg wd ++ [0])[i]? = some x := hx
      by_cases hi : i < wd.length
      · rw [List.getElem?_append_left (by omega)] at hx
        unfold hy_let at hx
        rw [List.getElem?_map] at hx
        obtain ⟨s, hs, rfl⟩ := Option.map_eq_some_iff.mp hx
        rw [pk_un (by omega)]
        exact (h i s hi hs).1
      · rw [List.getElem?_append_right (by omega)] at hx
        have h1 : i - (hy_let lg wd).length < 1 := (List.getElem?_eq_some_iff.mp hx).1
        have h2 : i = wd.length := by omega
        subst h2
        rw [hl, Nat.sub_self] at hx
        cases hx
        exact pk_us

set_option maxHeartbeats 4000000 in
set_option maxRecDepth 100000 in
/-- the loop of spellWord -/
theorem lo_HR_spellWord {p_ : Program} {l : Launch} {e_ : Env} {s : State} {m : MethodId} {args : Array Value} {below : List Frame} {meth : Method} {c_ : Code} {Q : State → Prop} {G : ev_G} {A : Nat → Prop} (S : CallFix p_ m c_ b_HR_spellWord 4 s args lw_good "HyphenRows") (hE : ev_K G A s s.heap) {w : wd_M} {r a b z : Nat} {B : Nat → Nat} {F : Nat → Nat → Int32} {tot mn pn : Int32} {lg : hy_L} {wd : List Int32} (hc : hr_c G w r B F tot mn (nI wd.length) pn)(hla : la_1 G w a b z lg)(hwd : li_ wd (F 5)) (hwl : wd.length ≤ 30) (hws : ∀ x ∈ wd, ∃ s : Nat, s < 256 ∧ x = nI s) (kk : ∀ (g : Nat → Int32) (w1 : wd_M) (H : Heap) (locs : List Loc), sp_v lg wd g wd.length → g 0 = 0 → w1 = va_up w (B 6) (some (.inl (G.2.1 0, 32, .inl g))) → wd_W G.1 ev_cl A w1 s.heap H locs → ∀ ls : Array Slot, lv_has ls 4 [(0, .ref r), (1, .ref a)] → W p_ l e_ (rm_ 0 0 0) s m args below meth c_ H locs 0 0 Q (F0 m 50 ls [])) (kf : ∀ (i : Nat) (s0 : Int32), wd[i]? = some s0 → lg.1 s0.toNatClampNeg = 0 → ∀ (g : Nat → Int32) (w1 : wd_M) (H : Heap) (locs : List Loc), w1 = va_up w (B 6) (some (.inl (G.2.1 0, 32, .inl g))) → wd_W G.1 ev_cl A w1 s.heap H locs → ∀ ls : Array Slot, lv_has ls 4 [(0, .ref r), (1, .ref a)] → W p_ l e_ (rm_ 0 0 0) s m args below meth c_ H locs 0 0 Q (F0 m 33 ls [])) :
    ∀ (fu : Nat) (i : Nat) (xi : Int32) (g : Nat → Int32) (w1 : wd_M) (H : Heap) (locs : List Loc) (ls : Array Slot), wd.length < i + fu → i ≤ wd.length → xi = nI i → sp_v lg wd g i → g 0 = 0 → w1 = va_up w (B 6) (some (.inl (G.2.1 0, 32, .inl g))) → wd_W G.1 ev_cl A w1 s.heap H locs → lv_has ls 4 [(0, .ref r), (1, .ref a), (2, .int xi)] → W p_ l e_ (rm_ 0 0 0) s m args below meth c_ H locs 0 0 Q (F0 m 9 ls []) := by
  have hx := S.1
  have hb := S.2.1
  have hK := hE.1
  intro fu
  induction fu with
  | zero =>
    intro i xi g w1 H locs ls hfu hi exi hinv g0 ew hW hl
    exact absurd hfu (by omega)
  | succ fu ih =>
    intro i xi g w1 H locs ls hfu hi exi hinv g0 ew hW hl
    obtain ⟨hr0, a3, a4, a5, a6, a7, a8⟩ := id hc
    obtain ⟨q1, q2, q3⟩ := id hla
    have a0 := a6
    have hr0 := wd_keep ew (wd_ne hr0 a0 (by simp)) hr0
    have a5 := wd_keep ew (wd_ne a5 a0 (by simp)) a5
    have q1 := wd_keep ew (wd_ne q1 a0 (by simp)) q1
    have q2 := wd_keep ew (wd_ne q2 a0 (by simp)) q2
    have a6 := wd_here ew
    refine lv_iload_n hx hb d_HR_spellWord_9 rfl (lv_at hl 2 rfl) ?_
    refine lv_aload_n hx hb d_HR_spellWord_10 rfl (lv_at hl 0 rfl) ?_
    refine wd_get S i_HR hK hW hr0 rfl 8 (by decide) k_HR_39 rfl rfl d_HR_spellWord_11 ?_
    refine lv_icmp_ge (tgt := 50) hx hb d_HR_spellWord_14 (by decide) (fun h14 => ?_) (fun h14 => ?_)
    · exact kk g w1 H locs (by rw [exi] at h14; have := (nI_leI (by omega) (by omega)).mp h14; rw [show i = wd.length by omega] at hinv; exact hinv) g0 ew hW ls (lv_sub hl [0, 1] rfl)
    · have hlt : i < wd.length := by rw [exi] at h14; exact Nat.lt_of_not_le (fun q => h14 (nI_le q (by omega)))
      obtain ⟨s0, hs0⟩ : ∃ s0, wd[i]? = some s0 := ⟨_, List.getElem?_eq_getElem hlt⟩
      obtain ⟨sn, hsn, es0⟩ := hws s0 (List.mem_of_getElem? hs0)
      have hcl : xi.toNatClampNeg = i := by rw [exi]; exact nI_clamp (by omega)
      have hin : vp_in xi 30 := by rw [exi]; exact vp_in_nI (by omega) (by omega)
      refine lv_aload_n hx hb d_HR_spellWord_17 rfl (lv_at hl 1 rfl) ?_
      refine wd_get S i_La hK hW q1 rfl 0 (by decide) k_HR_79 rfl rfl d_HR_spellWord_18 ?_
      refine lv_aload_n hx hb d_HR_spellWord_21 rfl (lv_at hl 0 rfl) ?_
      refine wd_get S i_HR hK hW hr0 rfl 7 (by decide) k_HR_36 rfl rfl d_HR_spellWord_22 ?_
      refine lv_iload_n hx hb d_HR_spellWord_25 rfl (lv_at hl 2 rfl) ?_
      refine wd_iald S hK hW 0 a5 rfl hin d_HR_spellWord_26 ?_
      rw [hcl, show F 5 i = nI sn from (hwd i s0 hs0).trans es0]
      refine wd_iald S hK hW 0 q2 rfl (vp_in_nI hsn (by omega)) d_HR_spellWord_27 ?_
      refine lv_topi (fun x3 ex3 => ?_)
      rw [nI_clamp (by omega)] at ex3
      refine lv_istore_n (lv' := [(3, .int x3), (0, .ref r), (1, .ref a), (2, .int xi)]) hx hb d_HR_spellWord_28 rfl hl (by decide) rfl (fun ls hl => ?_)
      refine lv_iload_n hx hb d_HR_spellWord_29 rfl (lv_at hl 0 rfl) ?_
      refine lv_if_ne (tgt := 35) hx hb d_HR_spellWord_30 (by decide) (fun h30 => ?_) (fun h30 => ?_)
      · refine lv_aload_n hx hb d_HR_spellWord_35 rfl (lv_at hl 1 rfl) ?_
        refine wd_get S i_HR hK hW hr0 rfl 9 (by decide) k_HR_42 rfl rfl d_HR_spellWord_36 ?_
        refine lv_iload_n hx hb d_HR_spellWord_39 rfl (lv_at hl 3 rfl) ?_
        refine lv_iconst (v := 1) hx hb d_HR_spellWord_40 (by decide) ?_
        refine lv_iadd hx hb d_HR_spellWord_41 ?_
        refine lv_iload_n hx hb d_HR_spellWord_42 rfl (lv_at hl 0 rfl) ?_
        rw [show xi + 1 = nI (i + 1) from by rw [exi]; exact nI_1 i]
        refine wd_iast S hK hW 0 a6 rfl (vp_in_nI (by omega) (by omega)) d_HR_spellWord_43 (fun H locs w_1 ew_1 hW => ?_)
        have hr0 := wd_keep ew_1 (wd_ne hr0 a6 (by simp)) hr0
        have a5 := wd_keep ew_1 (wd_ne a5 a6 (by simp)) a5
        have q1 := wd_keep ew_1 (wd_ne q1 a6 (by simp)) q1
        have q2 := wd_keep ew_1 (wd_ne q2 a6 (by simp)) q2
        have a6 : w_1 (B 6) = some (.inl (G.2.1 0, 32, .inl (upd g ((nI (i + 1)) : Int32).toNatClampNeg x3))) := wd_here ew_1
        obtain ⟨xi2, exi2⟩ : ∃ y : Int32, y = xi + 1 := ⟨_, rfl⟩
        refine lv_iinc (v := xi2) (lv' := [(2, .int xi2), (3, .int x3), (0, .ref r), (1, .ref a)]) hx hb d_HR_spellWord_44 hl (k := 3) rfl (by rw [exi2]; rfl) (by decide) rfl (fun ls hl => ?_)
        refine lv_goto (tgt := 9) hx hb d_HR_spellWord_47 (by decide) ?_
        exact ih (i + 1) xi2 (upd g (nI (i + 1)).toNatClampNeg x3) _ _ _ _ (by omega) hlt (by rw [exi2, exi]; exact nI_1 i) (by rw [nI_clamp (by omega)]; exact sp_inv hinv hs0 (by rw [ex3, es0, nI_clamp (by omega)]) h30) (by rw [nI_clamp (by omega), pk_un (by omega)]; exact g0) (by rw [ew_1, ew]; exact bx_uu _ _ _ _) hW (lv_sub hl [2, 3, 0] rfl)
      · exact kf i s0 hs0 (by rw [es0, nI_clamp (by omega), ← ex3]; exact h30) g w1 H locs ew hW ls (lv_sub hl [1, 2] rfl)

set_option maxHeartbeats 4000000 in
set_option maxRecDepth 100000 in
/-- spellWord(language): the row holds the letters, if every sign has one -/
theorem c_HR_spellWord (l : Launch) (G : ev_G) (w : wd_M) (sz : Nat) (r : Nat) (B : Nat → Nat) (F : Nat → Nat → Int32) (tot mn pn : Int32) (a b z : Nat) (lg : hy_L) (wd : List Int32) (hc : hr_c G w r B F tot mn (nI wd.length) pn)(hla : la_1 G w a b z lg)(hwd : li_ wd (F 5)) (hwl : wd.length ≤ 30) (hws : ∀ x ∈ wd, ∃ s : Nat, s < 256 ∧ x = nI s) : ct_i l y_HR_spellWord b_HR_spellWord 4 (some FieldType.boolean) (rm_ 0 0 0) G w sz [.ref r, .ref a] (fun v u => bl_ v (hy_sp lg wd) ∧ ∃ g : Nat → Int32, u = va_up w (B 6) (some (.inl (G.2.1 0, 32, .inl g))) ∧ (hy_sp lg wd → li_ (hy_row (hy_let lg wd)) g)) := by
  refine ct_enter (by decide +kernel) (Nat.le_of_ble_eq_true rfl) ?_
  intro p_ e_ s m below meth c_ hsz S hr hlocks hname hE hW ls hl
  have S : CallFix p_ m c_ b_HR_spellWord 4 s _ lw_good "HyphenRows" := S
  have hx := S.1
  have hb := S.2.1
  have hK := hE.1
  have hl : lv_has ls 4 [(0, .ref r), (1, .ref a)] := hl
  obtain ⟨hr0, a3, a4, a5, a6, a7, a8⟩ := id hc
  obtain ⟨q1, q2, q3⟩ := id hla
  refine lv_aload_n hx hb d_HR_spellWord_0 rfl (lv_at hl 0 rfl) ?_
  refine wd_get S i_HR hK hW hr0 rfl 9 (by decide) k_HR_42 rfl rfl d_HR_spellWord_1 ?_
  refine lv_iconst (v := 0) hx hb d_HR_spellWord_4 (by decide) ?_
  refine lv_iconst (v := 0) hx hb d_HR_spellWord_5 (by decide) ?_
  refine wd_iast S hK hW 0 a6 rfl (vp_in_nI (n := 0) (by omega) (by omega)) d_HR_spellWord_6 (fun H locs w_1 ew_1 hW => ?_)
  have hr0 := wd_keep ew_1 (wd_ne hr0 a6 (by simp)) hr0
  have a6 : w_1 (B 6) = some (.inl (G.2.1 0, 32, .inl (upd (F 6) (0 : Int32).toNatClampNeg 0))) := wd_here ew_1
  refine lv_iconst (v := 0) hx hb d_HR_spellWord_7 (by decide) ?_
  refine lv_istore_n (lv' := [(2, .int 0), (0, .ref r), (1, .ref a)]) hx hb d_HR_spellWord_8 rfl hl (by decide) rfl (fun ls hl => ?_)
  refine lo_HR_spellWord S hE hc hla hwd hwl hws (fun g w1 H locs hinv g0 ew hW ls hl => ?_) (fun i s0 hs0 hz g w1 H locs ew hW ls hl => ?_) (wd.length + 1) 0 0 (upd (F 6) (Int32.toNatClampNeg 0) 0) _ _ _ _ (by omega) (Nat.zero_le _) nI_0.symm (fun j x hj => absurd hj (Nat.not_lt_zero j)) pk_us ew_1 hW (lv_sub hl [1, 2, 0] rfl)
  · obtain ⟨hr0, a3, a4, a5, a6, a7, a8⟩ := id hc
    have hr0 := wd_keep ew (wd_ne hr0 a6 (by simp)) hr0
    have a6 := wd_here ew
    refine lv_aload_n hx hb d_HR_spellWord_50 rfl (lv_at hl 0 rfl) ?_
    refine wd_get S i_HR hK hW hr0 rfl 9 (by decide) k_HR_42 rfl rfl d_HR_spellWord_51 ?_
    refine lv_aload_n hx hb d_HR_spellWord_54 rfl (lv_at hl 0 rfl) ?_
    refine wd_get S i_HR hK hW hr0 rfl 8 (by decide) k_HR_39 rfl rfl d_HR_spellWord_55 ?_
    refine lv_iconst (v := 1) hx hb d_HR_spellWord_58 (by decide) ?_
    refine lv_iadd hx hb d_HR_spellWord_59 ?_
    refine lv_iconst (v := 0) hx hb d_HR_spellWord_60 (by decide) ?_
    rw [nI_1]
    refine wd_iast S hK hW 0 a6 rfl (vp_in_nI (by omega) (by omega)) d_HR_spellWord_61 (fun H locs w_2 ew_2 hW => ?_)
    have hr0 := wd_keep ew_2 (wd_ne hr0 a6 (by simp)) hr0
    have a6 : w_2 (B 6) = some (.inl (G.2.1 0, 32, .inl (upd g ((nI (wd.length + 1)) : Int32).toNatClampNeg 0))) := wd_here ew_2
    refine lv_iconst (v := 1) hx hb d_HR_spellWord_62 (by decide) ?_
    exact ct_iret S hr rfl hlocks hW (⟨Or.inl ⟨rfl, (sp_row hinv g0).1⟩, upd g (nI (wd.length + 1)).toNatClampNeg 0, by rw [ew_2, ew]; exact bx_uu _ _ _ _, fun _ => by rw [nI_clamp (by omega)]; exact (sp_row hinv g0).2⟩) (Nat.le_refl _) (Nat.le_refl _) d_HR_spellWord_63
  · refine lv_iconst (v := 0) hx hb d_HR_spellWord_33 (by decide) ?_
    exact ct_iret S hr rfl hlocks hW (⟨Or.inr ⟨rfl, fun q => q _ (List.mem_map.mpr ⟨s0, List.mem_of_getElem? hs0, rfl⟩) hz⟩, g, ew, fun q => absurd hz (q _ (List.mem_map.mpr ⟨s0, List.mem_of_getElem? hs0, rfl⟩))⟩) (Nat.le_refl _) (Nat.le_refl _) d_HR_spellWord_34
end
section
/-! THE CLASS: the digits of the row. -/

/-- digits raised from st on -/
def rz_ (f d : Nat → Int32) (st n : Nat) : Nat → Int32 := fun j => if st ≤ j ∧ j < st + n then (if f j < d (j - st) then d (j - st) else f j) else f j
theorem rz_0 (f d : Nat → Int32) (st : Nat) : ∀ j, f j = rz_ f d st 0 j := by
  intro j
  unfold rz_
  rw [if_neg (by omega)]
theorem rz_s {f d g : Nat → Int32} {st n : Nat} (h : ∀ j, g j = rz_ f d st n j) : ∀ j, upd g (st + n) (if g (st + n) < d n then d n else g (st + n)) j = rz_ f d st (n + 1) j := by
  intro j
  have hg : g (st + n) = f (st + n) := by rw [h]; unfold rz_; rw [if_neg (by omega)]
  by_cases hj : j = st + n
  · subst hj
    rw [pk_us, hg]
    unfold rz_
    rw [if_pos (show st ≤ st + n ∧ st + n < st + (n + 1) by omega), show st + n - st = n by omega]
  · rw [pk_un hj, h j]
    unfold rz_
    by_cases h1 : st ≤ j ∧ j < st + n
    · rw [if_pos h1, if_pos (show st ≤ j ∧ j < st + (n + 1) by omega)]
    · rw [if_neg h1, if_neg (show ¬ (st ≤ j ∧ j < st + (n + 1)) by omega)]
/-- g is f, raised by one pattern at the starts below n -/
def ly_ (f g : Nat → Int32) (ls ds row : List Int32) (n : Nat) : Prop := ∀ j : Nat, f j ≤ g j ∧ (g j = f j ∨ ∃ st : Nat, st < n ∧ hy_at ls row st ∧ st ≤ j ∧ j ≤ st + ls.length ∧ ds.getD (j - st) 0 = g j) ∧ ∀ st : Nat, st < n → hy_at ls row st → st ≤ j → j ≤ st + ls.length → ds.getD (j - st) 0 ≤ g j
theorem ly_0 (f : Nat → Int32) (ls ds row : List Int32) : ly_ f f ls ds row 0 := fun j => ⟨Int32.le_refl _, Or.inl rfl, fun st h => absurd h (Nat.not_lt_zero st)⟩
theorem ly_no {f g : Nat → Int32} {ls ds row : List Int32} {n : Nat} (h : ly_ f g ls ds row n) (hn : ¬ hy_at ls row n) : ly_ f g ls ds row (n + 1) := by
  intro j
  obtain ⟨h1, h2, h3⟩ := h j
  refine ⟨h1, h2.imp id (fun q => ?_), fun st hst hat => ?_⟩
  · obtain ⟨st, q1, q2⟩ := q
    exact ⟨st, by omega, q2⟩
  · by_cases hs : st = n
    · subst hs
      exact absurd hat hn
    · exact h3 st (by omega) hat
theorem ly_up {f g g2 d : Nat → Int32} {ls ds row : List Int32} {n : Nat} (h : ly_ f g ls ds row n) (hat : hy_at ls row n) (hd : li_ ds d) (hl : ds.length = ls.length + 1) (hg : ∀ j, g2 j = rz_ g d n (ls.length + 1) j) : ly_ f g2 ls ds row (n + 1) := by
  intro j
  obtain ⟨h1, h2, h3⟩ := h j
  rw [hg j]
  unfold rz_
  by_cases hj : n ≤ j ∧ j < n + (ls.length + 1)
  · rw [if_pos hj]
    have hdj : d (j - n) = ds.getD (j - n) 0 := li_get hd (by omega)
    by_cases hc : g j < d (j - n)
    · rw [if_pos hc]
      refine ⟨Int32.le_trans h1 (Int32.le_of_lt hc), Or.inr ⟨n, by omega, hat, hj.1, by omega, hdj.symm⟩, fun st hst ha hs1 hs2 => ?_⟩
      by_cases hs : st = n
      · subst hs
        rw [hdj]
        exact Int32.le_refl _
      · exact Int32.le_trans (h3 st (by omega) ha hs1 hs2) (Int32.le_of_lt hc)
    · rw [if_neg hc]
      refine ⟨h1, h2.imp id (fun q => ?_), fun st hst ha hs1 hs2 => ?_⟩
      · obtain ⟨st, q1, q2⟩ := q
        exact ⟨st, by omega, q2⟩
      · by_cases hs : st = n
        · subst hs
          rw [← hdj]
          exact Int32.not_lt.mp hc
        · exact h3 st (by omega) ha hs1 hs2
  · rw [if_neg hj]
    refine ⟨h1, h2.imp id (fun q => ?_), fun st hst ha hs1 hs2 => ?_⟩
    · obtain ⟨st, q1, q2⟩ := q
      exact ⟨st, by omega, q2⟩
    · by_cases hs : st = n
      · subst hs
        exact absurd ⟨hs1, by omega⟩ hj
      · exact h3 st (by omega) ha hs1 hs2
/-- beyond the last start there is none -/
theorem ly_end {f g : Nat → Int32} {ls ds row : List Int32} {n : Nat} (h : ly_ f g ls ds row n) (hn : row.length < n + ls.length) {n2 : Nat} (hn2 : n ≤ n2) : ly_ f g ls ds row n2 := by
  intro j
  obtain ⟨h1, h2, h3⟩ := h j
  refine ⟨h1, h2.imp id (fun q => ?_), fun st hst ha => h3 st ?_ ha⟩
  · obtain ⟨st, q1, q2⟩ := q
    exact ⟨st, by omega, q2⟩
  · have := ha.1
    omega

theorem bt_inv {g : Nat → Int32} {x b : Int32} {i : Nat} (h : ∀ k, k < i → g (k + 1) = hy_bit x k) (hb : b = hy_bit x i) : ∀ k, k < i + 1 → upd g (i + 1) b (k + 1) = hy_bit x k := by
  intro k hk
  by_cases hki : k = i
  · subst hki
    rw [pk_us]
    exact hb
  · rw [pk_un (by omega)]
    exact h k (by omega)

set_option maxHeartbeats 4000000 in
set_option maxRecDepth 100000 in
/-- the loop of takeToldPlaces -/
theorem lo_HR_takeToldPlaces {p_ : Program} {l : Launch} {e_ : Env} {s : State} {m : MethodId} {args : Array Value} {below : List Frame} {meth : Method} {c_ : Code} {Q : State → Prop} {G : ev_G} {A : Nat → Prop} (S : CallFix p_ m c_ b_HR_takeToldPlaces 3 s args lw_good "HyphenRows") (hE : ev_K G A s s.heap) {w : wd_M} {r wl : Nat} {B : Nat → Nat} {F : Nat → Nat → Int32} {tot mn pn : Int32} {x0 : Int32} (hc : hr_c G w r B F tot mn (nI wl) pn) (hwl : wl ≤ 30) (kk : ∀ (g : Nat → Int32) (w1 : wd_M) (H : Heap) (locs : List Loc), (∀ k, k ≤ wl → g (k + 1) = hy_bit x0 k) → w1 = va_up w (B 7) (some (.inl (G.2.1 0, 33, .inl g))) → wd_W G.1 ev_cl A w1 s.heap H locs → ∀ ls : Array Slot, lv_has ls 3 [(0, .ref r), (1, .int x0)] → W p_ l e_ (rm_ 0 0 0) s m args below meth c_ H locs 0 0 Q (F0 m 29 ls [])) :
    ∀ (fu : Nat) (i : Nat) (xi : Int32) (g : Nat → Int32) (w1 : wd_M) (H : Heap) (locs : List Loc) (ls : Array Slot), wl + 1 < i + fu → i ≤ wl + 1 → xi = nI i → (∀ k, k < i → g (k + 1) = hy_bit x0 k) → w1 = va_up w (B 7) (some (.inl (G.2.1 0, 33, .inl g))) → wd_W G.1 ev_cl A w1 s.heap H locs → lv_has ls 3 [(0, .ref r), (1, .int x0), (2, .int xi)] → W p_ l e_ (rm_ 0 0 0) s m args below meth c_ H locs 0 0 Q (F0 m 2 ls []) := by
  have hx := S.1
  have hb := S.2.1
  have hK := hE.1
  intro fu
  induction fu with
  | zero =>
    intro i xi g w1 H locs ls hfu hi exi hinv ew hW hl
    exact absurd hfu (by omega)
  | succ fu ih =>
    intro i xi g w1 H locs ls hfu hi exi hinv ew hW hl
    obtain ⟨hr0, a3, a4, a5, a6, a7, a8⟩ := id hc
    have a0 := a7
    have hr0 := wd_keep ew (wd_ne hr0 a0 (by simp)) hr0
    have a7 := wd_here ew
    refine lv_iload_n hx hb d_HR_takeToldPlaces_2 rfl (lv_at hl 2 rfl) ?_
    refine lv_aload_n hx hb d_HR_takeToldPlaces_3 rfl (lv_at hl 0 rfl) ?_
    refine wd_get S i_HR hK hW hr0 rfl 8 (by decide) k_HR_39 rfl rfl d_HR_takeToldPlaces_4 ?_
    refine lv_icmp_gt (tgt := 29) hx hb d_HR_takeToldPlaces_7 (by decide) (fun h7 => ?_) (fun h7 => ?_)
    · exact kk g w1 H locs (fun k hk => hinv k (by have h9 : ¬ i ≤ wl := fun q => Int32.not_lt.mpr (nI_le q (by omega)) (by rw [exi] at h7; exact h7); omega)) ew hW ls (lv_sub hl [0, 1] rfl)
    · have hlt : i ≤ wl := by rw [exi] at h7; exact (nI_leI (by omega) (by omega)).mp (Int32.not_lt.mp h7)
      refine lv_aload_n hx hb d_HR_takeToldPlaces_10 rfl (lv_at hl 0 rfl) ?_
      refine wd_get S i_HR hK hW hr0 rfl 10 (by decide) k_HR_45 rfl rfl d_HR_takeToldPlaces_11 ?_
      refine lv_iload_n hx hb d_HR_takeToldPlaces_14 rfl (lv_at hl 2 rfl) ?_
      refine lv_iconst (v := 1) hx hb d_HR_takeToldPlaces_15 (by decide) ?_
      refine lv_iadd hx hb d_HR_takeToldPlaces_16 ?_
      refine lv_iload_n hx hb d_HR_takeToldPlaces_17 rfl (lv_at hl 1 rfl) ?_
      refine lv_iload_n hx hb d_HR_takeToldPlaces_18 rfl (lv_at hl 2 rfl) ?_
      refine lv_iushr hx hb d_HR_takeToldPlaces_19 rfl ?_
      refine lv_iconst (v := 1) hx hb d_HR_takeToldPlaces_20 (by decide) ?_
      refine lv_iand hx hb d_HR_takeToldPlaces_21 ?_
      refine lv_topi (fun bt ebt => ?_)
      rw [show xi + 1 = nI (i + 1) from by rw [exi]; exact nI_1 i]
      refine wd_iast S hK hW 0 a7 rfl (vp_in_nI (by omega) (by omega)) d_HR_takeToldPlaces_22 (fun H locs w_1 ew_1 hW => ?_)
      have hr0 := wd_keep ew_1 (wd_ne hr0 a7 (by simp)) hr0
      have a7 : w_1 (B 7) = some (.inl (G.2.1 0, 33, .inl (upd g ((nI (i + 1)) : Int32).toNatClampNeg bt))) := wd_here ew_1
      obtain ⟨xi2, exi2⟩ : ∃ y : Int32, y = xi + 1 := ⟨_, rfl⟩
      refine lv_iinc (v := xi2) (lv' := [(2, .int xi2), (0, .ref r), (1, .int x0)]) hx hb d_HR_takeToldPlaces_23 hl (k := 2) rfl (by rw [exi2]; rfl) (by decide) rfl (fun ls hl => ?_)
      refine lv_goto (tgt := 2) hx hb d_HR_takeToldPlaces_26 (by decide) ?_
      exact ih (i + 1) xi2 (upd g (nI (i + 1)).toNatClampNeg bt) _ _ _ _ (by omega) (by omega) (by rw [exi2, exi]; exact nI_1 i) (by rw [nI_clamp (by omega)]; exact bt_inv hinv (by rw [ebt, exi]; rfl)) (by rw [ew_1, ew]; exact bx_uu _ _ _ _) hW (lv_sub hl [1, 2, 0] rfl)

set_option maxHeartbeats 4000000 in
set_option maxRecDepth 100000 in
/-- takeToldPlaces(x) -/
theorem c_HR_takeToldPlaces (l : Launch) (G : ev_G) (w : wd_M) (sz : Nat) (r wl : Nat) (B : Nat → Nat) (F : Nat → Nat → Int32) (tot mn pn : Int32) (x0 : Int32) (hc : hr_c G w r B F tot mn (nI wl) pn) (hwl : wl ≤ 30) : ct_v l y_HR_takeToldPlaces b_HR_takeToldPlaces 3 none (rm_ 0 0 0) G w sz [.ref r, .int x0] (fun u => ∃ g : Nat → Int32, u = va_up w (B 7) (some (.inl (G.2.1 0, 33, .inl g))) ∧ ∀ k, k ≤ wl → g (k + 1) = hy_bit x0 k) := by
  refine ct_enter (by decide +kernel) (Nat.le_of_ble_eq_true rfl) ?_
  intro p_ e_ s m below meth c_ hsz S hr hlocks hname hE hW ls hl
  have S : CallFix p_ m c_ b_HR_takeToldPlaces 3 s _ lw_good "HyphenRows" := S
  have hx := S.1
  have hb := S.2.1
  have hK := hE.1
  have hl : lv_has ls 3 [(0, .ref r), (1, .int x0)] := hl
  obtain ⟨hr0, a3, a4, a5, a6, a7, a8⟩ := id hc
  refine lv_iconst (v := 0) hx hb d_HR_takeToldPlaces_0 (by decide) ?_
  refine lv_istore_n (lv' := [(2, .int 0), (0, .ref r), (1, .int x0)]) hx hb d_HR_takeToldPlaces_1 rfl hl (by decide) rfl (fun ls hl => ?_)
  refine lo_HR_takeToldPlaces S hE hc hwl (fun g w1 H locs hinv ew hW ls hl => ?_) (wl + 2) 0 0 (F 7) w _ _ _ (by omega) (by omega) nI_0.symm lt_0 (up_id a7) hW (lv_sub hl [1, 2, 0] rfl)
  exact ct_vret S hr hlocks hW (⟨g, ew, hinv⟩) (Nat.le_refl _) (Nat.le_refl _) d_HR_takeToldPlaces_29

set_option maxHeartbeats 4000000 in
set_option maxRecDepth 100000 in
/-- the loop of raiseDigits -/
theorem lo_HR_raiseDigits {p_ : Program} {l : Launch} {e_ : Env} {s : State} {m : MethodId} {args : Array Value} {below : List Frame} {meth : Method} {c_ : Code} {Q : State → Prop} {G : ev_G} {A : Nat → Prop} (S : CallFix p_ m c_ b_HR_raiseDigits 4 s args lw_good "HyphenRows") (hE : ev_K G A s s.heap) {w : wd_M} {r d st nd : Nat} {B : Nat → Nat} {F : Nat → Nat → Int32} {fd : Nat → Int32} {tot mn wn pn : Int32} (hc : hr_c G w r B F tot mn wn pn) (hd : w d = some (.inl (G.2.1 0, nd, .inl fd))) (hst : st + nd ≤ 33) (hnd : nd ≤ 13) (kk : ∀ (g : Nat → Int32) (w1 : wd_M) (H : Heap) (locs : List Loc), (∀ j, g j = rz_ (F 7) fd st nd j) → w1 = va_up w (B 7) (some (.inl (G.2.1 0, 33, .inl g))) → wd_W G.1 ev_cl A w1 s.heap H locs → ∀ ls : Array Slot, lv_has ls 4 [(0, .ref r)] → W p_ l e_ (rm_ 1 0 0) s m args below meth c_ H locs 0 0 Q (F0 m 36 ls [])) :
    ∀ (fu : Nat) (i : Nat) (xi : Int32) (g : Nat → Int32) (w1 : wd_M) (H : Heap) (locs : List Loc) (ls : Array Slot), nd < i + fu → i ≤ nd → xi = nI i → (∀ j, g j = rz_ (F 7) fd st i j) → w1 = va_up w (B 7) (some (.inl (G.2.1 0, 33, .inl g))) → wd_W G.1 ev_cl A w1 s.heap H locs → lv_has ls 4 [(0, .ref r), (1, .ref d), (2, .int (nI st)), (3, .int xi)] → W p_ l e_ (rm_ 1 0 0) s m args below meth c_ H locs 0 0 Q (F0 m 2 ls []) := by
  have hx := S.1
  have hb := S.2.1
  have hK := hE.1
  intro fu
  induction fu with
  | zero =>
    intro i xi g w1 H locs ls hfu hi exi hinv ew hW hl
    exact absurd hfu (by omega)
  | succ fu ih =>
    intro i xi g w1 H locs ls hfu hi exi hinv ew hW hl
    obtain ⟨hr0, a3, a4, a5, a6, a7, a8⟩ := id hc
    have a0 := a7
    have hr0 := wd_keep ew (wd_ne hr0 a0 (by simp)) hr0
    have hd := wd_keep ew (wd_neA hd a0 (by omega)) hd
    have a7 := wd_here ew
    refine lv_iload_n hx hb d_HR_raiseDigits_2 rfl (lv_at hl 3 rfl) ?_
    refine lv_aload_n hx hb d_HR_raiseDigits_3 rfl (lv_at hl 1 rfl) ?_
    refine wd_alen S hK hW 0 hd rfl d_HR_raiseDigits_4 ?_
    refine lv_icmp_ge (tgt := 36) hx hb d_HR_raiseDigits_5 (by decide) (fun h5 => ?_) (fun h5 => ?_)
    · exact kk g w1 H locs (by rw [exi] at h5; have := (nI_leI (by omega) (by omega)).mp h5; rw [show i = nd by omega] at hinv; exact hinv) ew hW ls (lv_sub hl [0] rfl)
    · have hlt : i < nd := by rw [exi] at h5; exact Nat.lt_of_not_le (fun q => h5 (nI_le q (by omega)))
      have hin : vp_in xi nd := by rw [exi]; exact vp_in_nI hlt (by omega)
      have hcl : xi.toNatClampNeg = i := by rw [exi]; exact nI_clamp (by omega)
      have hsi : nI st + xi = nI (st + i) := by rw [exi]; exact nI_add st i
      refine lv_aload_n hx hb d_HR_raiseDigits_8 rfl (lv_at hl 0 rfl) ?_
      refine wd_get S i_HR hK hW hr0 rfl 10 (by decide) k_HR_45 rfl rfl d_HR_raiseDigits_9 ?_
      refine lv_iload_n hx hb d_HR_raiseDigits_12 rfl (lv_at hl 2 rfl) ?_
      refine lv_iload_n hx hb d_HR_raiseDigits_13 rfl (lv_at hl 3 rfl) ?_
      refine lv_iadd hx hb d_HR_raiseDigits_14 ?_
      refine lv_aload_n hx hb d_HR_raiseDigits_15 rfl (lv_at hl 0 rfl) ?_
      refine wd_get S i_HR hK hW hr0 rfl 10 (by decide) k_HR_45 rfl rfl d_HR_raiseDigits_16 ?_
      refine lv_iload_n hx hb d_HR_raiseDigits_19 rfl (lv_at hl 2 rfl) ?_
      refine lv_iload_n hx hb d_HR_raiseDigits_20 rfl (lv_at hl 3 rfl) ?_
      refine lv_iadd hx hb d_HR_raiseDigits_21 ?_
      rw [hsi]
      refine wd_iald S hK hW 0 a7 rfl (vp_in_nI (by omega) (by omega)) d_HR_raiseDigits_22 ?_
      rw [nI_clamp (n := st + i) (by omega)]
      refine lv_aload_n hx hb d_HR_raiseDigits_23 rfl (lv_at hl 1 rfl) ?_
      refine lv_iload_n hx hb d_HR_raiseDigits_24 rfl (lv_at hl 3 rfl) ?_
      refine wd_iald S hK hW 0 hd rfl hin d_HR_raiseDigits_25 ?_
      rw [hcl]
      refine va_mmax hx hb (S.2.2.1.trans hl.1.symm) S.2.2.2.1 (S.2.2.2.2 _ k_HR_188) (S.2.2.2.2 _ ks_Ma_max) (S.2.2.2.2 _ kz_Ma) (S.2.2.2.2 _ kc_Ma_max) (Nat.le_of_ble_eq_true rfl) (Nat.le_of_ble_eq_true rfl) (Nat.le_of_ble_eq_true rfl) (Nat.le_of_ble_eq_true rfl) d_HR_raiseDigits_26 ?_
      refine lv_topi (fun bt ebt => ?_)
      refine wd_iast S hK hW 0 a7 rfl (vp_in_nI (by omega) (by omega)) d_HR_raiseDigits_29 (fun H locs w_1 ew_1 hW => ?_)
      have hr0 := wd_keep ew_1 (wd_ne hr0 a7 (by simp)) hr0
      have hd := wd_keep ew_1 (wd_neA hd a7 (by omega)) hd
      have a7 : w_1 (B 7) = some (.inl (G.2.1 0, 33, .inl (upd g ((nI (st + i)) : Int32).toNatClampNeg bt))) := wd_here ew_1
      obtain ⟨xi2, exi2⟩ : ∃ y : Int32, y = xi + 1 := ⟨_, rfl⟩
      refine lv_iinc (v := xi2) (lv' := [(3, .int xi2), (0, .ref r), (1, .ref d), (2, .int (nI st))]) hx hb d_HR_raiseDigits_30 hl (k := 3) rfl (by rw [exi2]; rfl) (by decide) rfl (fun ls hl => ?_)
      refine lv_goto (tgt := 2) hx hb d_HR_raiseDigits_33 (by decide) ?_
      exact ih (i + 1) xi2 (upd g (nI (st + i)).toNatClampNeg bt) _ _ _ _ (by omega) hlt (by rw [exi2, exi]; exact nI_1 i) (by rw [nI_clamp (by omega), ebt]; exact rz_s hinv) (by rw [ew_1, ew]; exact bx_uu _ _ _ _) hW (lv_sub hl [1, 2, 3, 0] rfl)

set_option maxHeartbeats 4000000 in
set_option maxRecDepth 100000 in
/-- raiseDigits(d, st) -/
theorem c_HR_raiseDigits (l : Launch) (G : ev_G) (w : wd_M) (sz : Nat) (r d st nd : Nat) (B : Nat → Nat) (F : Nat → Nat → Int32) (fd : Nat → Int32) (tot mn wn pn : Int32) (hc : hr_c G w r B F tot mn wn pn) (hd : w d = some (.inl (G.2.1 0, nd, .inl fd))) (hst : st + nd ≤ 33) (hnd : nd ≤ 13) : ct_v l y_HR_raiseDigits b_HR_raiseDigits 4 none (rm_ 1 0 0) G w sz [.ref r, .ref d, .int (nI st)] (fun u => ∃ g : Nat → Int32, u = va_up w (B 7) (some (.inl (G.2.1 0, 33, .inl g))) ∧ ∀ j, g j = rz_ (F 7) fd st nd j) := by
  refine ct_enter (by decide +kernel) (Nat.le_of_ble_eq_true rfl) ?_
  intro p_ e_ s m below meth c_ hsz S hr hlocks hname hE hW ls hl
  have S : CallFix p_ m c_ b_HR_raiseDigits 4 s _ lw_good "HyphenRows" := S
  have hx := S.1
  have hb := S.2.1
  have hK := hE.1
  have hl : lv_has ls 4 [(0, .ref r), (1, .ref d), (2, .int (nI st))] := hl
  obtain ⟨hr0, a3, a4, a5, a6, a7, a8⟩ := id hc
  refine lv_iconst (v := 0) hx hb d_HR_raiseDigits_0 (by decide) ?_
  refine lv_istore_n (lv' := [(3, .int 0), (0, .ref r), (1, .ref d), (2, .int (nI st))]) hx hb d_HR_raiseDigits_1 rfl hl (by decide) rfl (fun ls hl => ?_)
  refine lo_HR_raiseDigits S hE hc hd hst hnd (fun g w1 H locs hinv ew hW ls hl => ?_) (nd + 1) 0 0 (F 7) w _ _ _ (by omega) (Nat.zero_le _) nI_0.symm (rz_0 _ _ _) (up_id a7) hW (lv_sub hl [1, 2, 3, 0] rfl)
  exact ct_vret S hr hlocks hW (⟨g, ew, hinv⟩) (Nat.le_refl _) (Nat.le_refl _) d_HR_raiseDigits_36

set_option maxHeartbeats 4000000 in
set_option maxRecDepth 100000 in
/-- the loop of layOverRow -/
theorem lo_HR_layOverRow {p_ : Program} {l : Launch} {e_ : Env} {s : State} {m : MethodId} {args : Array Value} {below : List Frame} {meth : Method} {c_ : Code} {Q : State → Prop} {G : ev_G} {A : Nat → Prop} (S : CallFix p_ m c_ b_HR_layOverRow 4 s args lw_good "HyphenRows") (hE : ev_K G A s s.heap) {w : wd_M} {r a b d wl : Nat} {B : Nat → Nat} {F : Nat → Nat → Int32} {f g2 : Nat → Int32} {p : hy_P} {row : List Int32} {x2 tot mn pn : Int32} (hc : hr_c G w r B F tot mn (nI wl) pn) (hp1 : pa_1 G w a b d f g2 p) (hrl : li_ row (F 6)) (hrow : row.length = wl + 2) (hwl : wl ≤ 30) (hpn : 1 ≤ p.2.1.length ∧ p.2.1.length ≤ 12) (hdl : p.2.2.length = p.2.1.length + 1) (ex2 : x2 = nI (wl + 2) - nI p.2.1.length) (kk : ∀ (g : Nat → Int32) (w1 : wd_M) (H : Heap) (locs : List Loc), ly_ (F 7) g p.2.1 p.2.2 row (wl + 3) → w1 = va_up w (B 7) (some (.inl (G.2.1 0, 33, .inl g))) → wd_W G.1 ev_cl A w1 s.heap H locs → ∀ ls : Array Slot, lv_has ls 4 [(0, .ref r), (1, .ref a), (2, .int x2)] → W p_ l e_ (rm_ 2 0 0) s m args below meth c_ H locs 0 0 Q (F0 m 50 ls [])) :
    ∀ (fu : Nat) (i : Nat) (xi : Int32) (g : Nat → Int32) (w1 : wd_M) (H : Heap) (locs : List Loc) (ls : Array Slot), wl + 3 < i + fu → i ≤ wl + 3 → xi = nI i → ly_ (F 7) g p.2.1 p.2.2 row i → w1 = va_up w (B 7) (some (.inl (G.2.1 0, 33, .inl g))) → wd_W G.1 ev_cl A w1 s.heap H locs → lv_has ls 4 [(0, .ref r), (1, .ref a), (2, .int x2), (3, .int xi)] → W p_ l e_ (rm_ 2 0 0) s m args below meth c_ H locs 0 0 Q (F0 m 15 ls []) := by
  have hx := S.1
  have hb := S.2.1
  have hK := hE.1
  have hbnd : ∀ i, i ≤ 100 → (nI i ≤ nI (wl + 2) - nI p.2.1.length ↔ i + p.2.1.length ≤ wl + 2) := fun i hi => by
    rw [Int32.le_iff_toInt_le, nI_toInt (by omega), pk_sub_toInt (by omega) (by omega)]
    omega
  intro fu
  induction fu with
  | zero =>
    intro i xi g w1 H locs ls hfu hi exi hinv ew hW hl
    exact absurd hfu (by omega)
  | succ fu ih =>
    intro i xi g w1 H locs ls hfu hi exi hinv ew hW hl
    obtain ⟨hr0, a3, a4, a5, a6, a7, a8⟩ := id hc
    obtain ⟨p1, p2, p3, p4, p5⟩ := id hp1
    have a0 := a7
    have hr0 := wd_keep ew (wd_ne hr0 a0 (by simp)) hr0
    have a6 := wd_keep ew (wd_ne a6 a0 (by simp)) a6
    have p1 := wd_keep ew (wd_ne p1 a0 (by simp)) p1
    have p2 := wd_keep ew (wd_neA p2 a0 (by omega)) p2
    have p3 := wd_keep ew (wd_neA p3 a0 (by omega)) p3
    have hcg : hr_c G w1 r B (fun k => if k = 7 then g else F k) tot mn (nI wl) pn := ⟨hr0, wd_keep ew (wd_ne a3 a0 (by simp)) a3, wd_keep ew (wd_ne a4 a0 (by simp)) a4, wd_keep ew (wd_ne a5 a0 (by simp)) a5, a6, wd_here ew, wd_keep ew (wd_ne a8 a0 (by simp)) a8⟩
    have a7 := wd_here ew
    refine lv_iload_n hx hb d_HR_layOverRow_15 rfl (lv_at hl 3 rfl) ?_
    refine lv_iload_n hx hb d_HR_layOverRow_16 rfl (lv_at hl 2 rfl) ?_
    refine lv_icmp_gt (tgt := 50) hx hb d_HR_layOverRow_17 (by decide) (fun h17 => ?_) (fun h17 => ?_)
    · exact kk g w1 H locs (ly_end hinv (by rw [hrow]; have h9 : ¬ i + p.2.1.length ≤ wl + 2 := fun q => Int32.not_lt.mpr ((hbnd i (by omega)).mpr q) (by rw [exi, ex2] at h17; exact h17); omega) hi) ew hW ls (lv_sub hl [0, 1, 2] rfl)
    · have hlt : i + p.2.1.length ≤ wl + 2 := (hbnd i (by omega)).mp (by rw [exi, ex2] at h17; exact Int32.not_lt.mp h17)
      refine lv_aload_n hx hb d_HR_layOverRow_20 rfl (lv_at hl 1 rfl) ?_
      refine wd_get S i_Pa hK hW p1 rfl 1 (by decide) k_HR_158 rfl rfl d_HR_layOverRow_21 ?_
      refine lv_aload_n hx hb d_HR_layOverRow_24 rfl (lv_at hl 0 rfl) ?_
      refine wd_get S i_HR hK hW hr0 rfl 9 (by decide) k_HR_42 rfl rfl d_HR_layOverRow_25 ?_
      refine lv_iload_n hx hb d_HR_layOverRow_28 rfl (lv_at hl 3 rfl) ?_
      rw [exi]
      refine ct_goi hW (ct_runS (As := [.ref b, .ref (B 6), .int (nI i)]) (rest := []) S hE hW (c_HR_standsAt l G _ _ b (B 6) p.2.1.length 32 i f (F 6) p2 a6 (by omega) (by omega) (by omega)) kc_HR_standsAt kz_HR k_HR_161 ks_HR_standsAt kd_HR_standsAt ⟨Nat.le_of_ble_eq_true rfl, Nat.le_of_ble_eq_true rfl⟩ hl.1 (Nat.le_of_ble_eq_true rfl) d_HR_layOverRow_29 ⟨Nat.le_of_ble_eq_true rfl, Nat.le_of_ble_eq_true rfl⟩) (fun v_3 u_1 H locs hp_2 hW => ?_)
      obtain ⟨hv3, hu_4⟩ := hp_2
      rw [hu_4] at hW
      have hat : (i + p.2.1.length ≤ 32 ∧ ∀ j, j < p.2.1.length → F 6 (i + j) = f j) ↔ hy_at p.2.1 row i := by
        refine ⟨fun q => ⟨by omega, fun j hj => ?_⟩, fun q => ⟨by omega, fun j hj => ?_⟩⟩
        · rw [← li_get hrl (by omega), q.2 j hj, li_get p4 hj]
        · rw [li_get hrl (by omega), q.2 j hj, li_get p4 hj]
      refine lv_if_eq (tgt := 44) hx hb d_HR_layOverRow_32 (by decide) (fun h32 => ?_) (fun h32 => ?_)
      · obtain ⟨xi2, exi2⟩ : ∃ y : Int32, y = xi + 1 := ⟨_, rfl⟩
        refine lv_iinc (v := xi2) (lv' := [(3, .int xi2), (0, .ref r), (1, .ref a), (2, .int x2)]) hx hb d_HR_layOverRow_44 hl (k := 3) rfl (by rw [exi2]; rfl) (by decide) rfl (fun ls hl => ?_)
        refine lv_goto (tgt := 15) hx hb d_HR_layOverRow_47 (by decide) ?_
        exact ih (i + 1) xi2 g _ _ _ _ (by omega) (by omega) (by rw [exi2, exi]; exact nI_1 i) (ly_no hinv (fun q => bl_f hv3 h32 (hat.mpr q))) ew hW (lv_sub hl [1, 2, 3, 0] rfl)
      · have hya := hat.mp (bl_t hv3 h32)
        refine lv_aload_n hx hb d_HR_layOverRow_35 rfl (lv_at hl 0 rfl) ?_
        refine lv_aload_n hx hb d_HR_layOverRow_36 rfl (lv_at hl 1 rfl) ?_
        refine wd_get S i_Pa hK hW p1 rfl 2 (by decide) k_HR_111 rfl rfl d_HR_layOverRow_37 ?_
        refine lv_iload_n hx hb d_HR_layOverRow_40 rfl (lv_at hl 3 rfl) ?_
        rw [exi]
        refine ct_gov hW (ct_runV (As := [.ref d, .int (nI i)]) (rest := []) (q := (R_HR, F_HR, 13)) S hE hW (c_HR_raiseDigits l G _ _ r d i (p.2.1.length + 1) B (fun k => if k = 7 then g else F k) g2 tot mn (nI wl) pn hcg p3 (by omega) (by omega)) hr0 rfl kc_HR_raiseDigits kz_HR k_HR_185 ki_HR_raiseDigits kv_HR_raiseDigits kd_HR_raiseDigits ⟨Nat.le_of_ble_eq_true rfl, Nat.le_of_ble_eq_true rfl⟩ hl.1 (Nat.le_of_ble_eq_true rfl) d_HR_layOverRow_41 ⟨Nat.le_of_ble_eq_true rfl, Nat.le_of_ble_eq_true rfl⟩) (fun u_5 H locs hp_6 hW => ?_)
        obtain ⟨g3, hu, hg3⟩ := hp_6
        rw [if_pos rfl] at hg3
        have hr0 := wd_keep hu (wd_ne hr0 a7 (by simp)) hr0
        obtain ⟨xi2, exi2⟩ : ∃ y : Int32, y = xi + 1 := ⟨_, rfl⟩
        refine lv_iinc (v := xi2) (lv' := [(3, .int xi2), (0, .ref r), (1, .ref a), (2, .int x2)]) hx hb d_HR_layOverRow_44 hl (k := 3) rfl (by rw [exi2]; rfl) (by decide) rfl (fun ls hl => ?_)
        refine lv_goto (tgt := 15) hx hb d_HR_layOverRow_47 (by decide) ?_
        exact ih (i + 1) xi2 g3 _ _ _ _ (by omega) (by omega) (by rw [exi2, exi]; exact nI_1 i) (ly_up hinv hya p5 hdl hg3) (by rw [hu, ew]; exact bx_uu _ _ _ _) hW (lv_sub hl [1, 2, 3, 0] rfl)

set_option maxHeartbeats 4000000 in
set_option maxRecDepth 100000 in
/-- layOverRow(pattern) -/
theorem c_HR_layOverRow (l : Launch) (G : ev_G) (w : wd_M) (sz : Nat) (r a b d wl : Nat) (B : Nat → Nat) (F : Nat → Nat → Int32) (f g2 : Nat → Int32) (p : hy_P) (row : List Int32) (tot mn pn : Int32) (hc : hr_c G w r B F tot mn (nI wl) pn) (hp1 : pa_1 G w a b d f g2 p) (hrl : li_ row (F 6)) (hrow : row.length = wl + 2) (hwl : wl ≤ 30) (hpn : 1 ≤ p.2.1.length ∧ p.2.1.length ≤ 12) (hdl : p.2.2.length = p.2.1.length + 1) : ct_v l y_HR_layOverRow b_HR_layOverRow 4 none (rm_ 2 0 0) G w sz [.ref r, .ref a] (fun u => ∃ g : Nat → Int32, u = va_up w (B 7) (some (.inl (G.2.1 0, 33, .inl g))) ∧ ly_ (F 7) g p.2.1 p.2.2 row (wl + 3)) := by
  refine ct_enter (by decide +kernel) (Nat.le_of_ble_eq_true rfl) ?_
  intro p_ e_ s m below meth c_ hsz S hr hlocks hname hE hW ls hl
  have S : CallFix p_ m c_ b_HR_layOverRow 4 s _ lw_good "HyphenRows" := S
  have hx := S.1
  have hb := S.2.1
  have hK := hE.1
  have hl : lv_has ls 4 [(0, .ref r), (1, .ref a)] := hl
  obtain ⟨hr0, a3, a4, a5, a6, a7, a8⟩ := id hc
  obtain ⟨p1, p2, p3, p4, p5⟩ := id hp1
  refine lv_aload_n hx hb d_HR_layOverRow_0 rfl (lv_at hl 0 rfl) ?_
  refine wd_get S i_HR hK hW hr0 rfl 8 (by decide) k_HR_39 rfl rfl d_HR_layOverRow_1 ?_
  refine lv_iconst (v := 2) hx hb d_HR_layOverRow_4 (by decide) ?_
  refine lv_iadd hx hb d_HR_layOverRow_5 ?_
  refine lv_aload_n hx hb d_HR_layOverRow_6 rfl (lv_at hl 1 rfl) ?_
  refine wd_get S i_Pa hK hW p1 rfl 1 (by decide) k_HR_158 rfl rfl d_HR_layOverRow_7 ?_
  refine wd_alen S hK hW 0 p2 rfl d_HR_layOverRow_10 ?_
  refine lv_isub hx hb d_HR_layOverRow_11 ?_
  refine lv_topi (fun x2 ex2 => ?_)
  rw [show nI wl + 2 = nI (wl + 2) from nI_add wl 2] at ex2
  refine lv_istore_n (lv' := [(2, .int x2), (0, .ref r), (1, .ref a)]) hx hb d_HR_layOverRow_12 rfl hl (by decide) rfl (fun ls hl => ?_)
  refine lv_iconst (v := 0) hx hb d_HR_layOverRow_13 (by decide) ?_
  refine lv_istore_n (lv' := [(3, .int 0), (2, .int x2), (0, .ref r), (1, .ref a)]) hx hb d_HR_layOverRow_14 rfl hl (by decide) rfl (fun ls hl => ?_)
  refine lo_HR_layOverRow S hE hc hp1 hrl hrow hwl hpn hdl ex2 (fun g w1 H locs hinv ew hW ls hl => ?_) (wl + 4) 0 0 (F 7) w _ _ _ (by omega) (by omega) nI_0.symm (ly_0 _ _ _ _) (up_id a7) hW (lv_sub hl [2, 3, 1, 0] rfl)
  exact ct_vret S hr hlocks hW (⟨g, ew, hinv⟩) (Nat.le_refl _) (Nat.le_refl _) d_HR_layOverRow_50
end
section
/-! THE CLASS: findRowDigits. -/

theorem up_kp {w w1 : wd_M} {a : Nat} {x : Option va_E} {tg : Nat → Nat} {P : Nat → Prop} (h : w1 = va_up w a x) (hn : ¬ P (tg a)) : kp_ w w1 tg P := fun y _ hp => by
  rw [h, va_up_ne _ _ (fun q => hn (by rw [← q]; exact hp))]
theorem al_upI {G : ev_G} {w w1 : wd_M} {a e b n : Nat} {els : List Nat} {c : ClassId} {f : Nat → Int32} {x : Option va_E} (h : al_ G w a e els) (hb : w b = some (.inl (c, n, .inl f))) (e1 : w1 = va_up w b x) : al_ G w1 a e els := by
  obtain ⟨mo, h1, h2⟩ := h
  refine ⟨mo, wd_keep e1 (wd_ne h1 hb (by simp)) h1, ?_⟩
  rcases h2 with h2 | ⟨cap, g, g1, g2⟩
  · exact Or.inl h2
  · exact Or.inr ⟨cap, g, wd_keep e1 (wd_ne g1 hb (by simp)) g1, g2⟩
/-- the class's own cells behind a write of its row's digits -/
theorem hc_7 {G : ev_G} {w w1 : wd_M} {r : Nat} {B : Nat → Nat} {F : Nat → Nat → Int32} {tot mn wn pn : Int32} {g : Nat → Int32} (hc : hr_c G w r B F tot mn wn pn) (ew : w1 = va_up w (B 7) (some (.inl (G.2.1 0, 33, .inl g)))) : hr_c G w1 r B (fun k => if k = 7 then g else F k) tot mn wn pn := by
  obtain ⟨hr0, a3, a4, a5, a6, a7, a8⟩ := hc
  exact ⟨wd_keep ew (wd_ne hr0 a7 (by simp)) hr0, wd_keep ew (wd_ne a3 a7 (by simp)) a3, wd_keep ew (wd_ne a4 a7 (by simp)) a4, wd_keep ew (wd_ne a5 a7 (by simp)) a5, wd_keep ew (wd_ne a6 a7 (by simp)) a6, wd_here ew, wd_keep ew (wd_ne a8 a7 (by simp)) a8⟩
theorem hc_6 {G : ev_G} {w w1 : wd_M} {r : Nat} {B : Nat → Nat} {F : Nat → Nat → Int32} {tot mn wn pn : Int32} {g : Nat → Int32} (hc : hr_c G w r B F tot mn wn pn) (ew : w1 = va_up w (B 6) (some (.inl (G.2.1 0, 32, .inl g)))) : hr_c G w1 r B (fun k => if k = 6 then g else F k) tot mn wn pn := by
  obtain ⟨hr0, a3, a4, a5, a6, a7, a8⟩ := hc
  exact ⟨wd_keep ew (wd_ne hr0 a6 (by simp)) hr0, wd_keep ew (wd_ne a3 a6 (by simp)) a3, wd_keep ew (wd_ne a4 a6 (by simp)) a4, wd_keep ew (wd_ne a5 a6 (by simp)) a5, wd_here ew, wd_keep ew (wd_ne a7 a6 (by simp)) a7, wd_keep ew (wd_ne a8 a6 (by simp)) a8⟩
theorem isD_0 {lang : Nat} {row : List Int32} {j : Nat} {d : Int32} {P : List hy_P} (h : d = 0) : hy_isD (P.take 0) lang row j d := ⟨Or.inl h, by rw [h]; exact Int32.le_refl _, fun d2 q => by obtain ⟨k, p, h1, -⟩ := q; simp at h1⟩
theorem cov_take {P : List hy_P} {lang n : Nat} {row : List Int32} {j : Nat} {d : Int32} : hy_cov (P.take n) lang row j d ↔ ∃ (k : Nat) (p : hy_P), k < n ∧ P[k]? = some p ∧ p.1 = lang ∧ ∃ st : Nat, hy_at p.2.1 row st ∧ st ≤ j ∧ j ≤ st + p.2.1.length ∧ p.2.2.getD (j - st) 0 = d := by
  constructor
  · rintro ⟨k, p, h1, h2⟩
    have hk : k < n := by
      have h9 := (List.getElem?_eq_some_iff.mp h1).1
      rw [List.length_take] at h9
      omega
    rw [List.getElem?_take_of_lt hk] at h1
    exact ⟨k, p, hk, h1, h2⟩
  · rintro ⟨k, p, hk, h1, h2⟩
    exact ⟨k, p, by rw [List.getElem?_take_of_lt hk]; exact h1, h2⟩
theorem isD_no {P : List hy_P} {lang i : Nat} {row : List Int32} {j : Nat} {d : Int32} {p : hy_P} (h : hy_isD (P.take i) lang row j d) (hp : P[i]? = some p) (hn : ¬ p.1 = lang) : hy_isD (P.take (i + 1)) lang row j d := by
  refine ⟨h.1.imp id (fun q => ?_), h.2.1, fun d2 q => h.2.2 d2 ?_⟩
  · obtain ⟨k, p2, hk, q2⟩ := cov_take.mp q
    exact cov_take.mpr ⟨k, p2, by omega, q2⟩
  · obtain ⟨k, p2, hk, h1, h2, h3⟩ := cov_take.mp q
    by_cases hki : k = i
    · subst hki
      rw [hp] at h1
      cases h1
      exact absurd h2 hn
    · exact cov_take.mpr ⟨k, p2, by omega, h1, h2, h3⟩
theorem isD_yes {P : List hy_P} {lang i n : Nat} {row : List Int32} {j : Nat} {f g : Nat → Int32} {p : hy_P} (h : hy_isD (P.take i) lang row j (f j)) (hp : P[i]? = some p) (hl : p.1 = lang) (hy : ly_ f g p.2.1 p.2.2 row n) (hn : row.length < n) : hy_isD (P.take (i + 1)) lang row j (g j) := by
  obtain ⟨h1, h2, h3⟩ := hy j
  refine ⟨?_, Int32.le_trans h.2.1 h1, fun d2 q => ?_⟩
  · rcases h2 with e1 | ⟨st, q1, q2, q3, q4, q5⟩
    · rw [e1]
      refine h.1.imp id (fun q => ?_)
      obtain ⟨k, p2, hk, q2⟩ := cov_take.mp q
      exact cov_take.mpr ⟨k, p2, by omega, q2⟩
    · exact Or.inr (cov_take.mpr ⟨i, p, by omega, hp, hl, st, q2, q3, q4, q5⟩)
  · obtain ⟨k, p2, hk, h4, h5, st, h6, h7, h8, h9⟩ := cov_take.mp q
    by_cases hki : k = i
    · subst hki
      rw [hp] at h4
      cases h4
      rw [← h9]
      exact h3 st (by have := h6.1; omega) h6 h7 h8
    · exact Int32.le_trans (h.2.2 d2 (cov_take.mpr ⟨k, p2, by omega, h4, h5, st, h6, h7, h8, h9⟩)) h1
theorem isD_all {P : List hy_P} {lang n : Nat} {row : List Int32} {j : Nat} {d : Int32} (h : hy_isD (P.take n) lang row j d) (hn : P.length ≤ n) : hy_isD P lang row j d := by
  rw [List.take_of_length_le hn] at h
  exact h
theorem row_tail {lt : List Int32} {f : Nat → Int32} (h : li_ (hy_row lt) f) : li_ lt (fun j => f (j + 1)) := by
  intro i x hx
  refine h (i + 1) x ?_
  show (lt ++ [0])[i]? = some x
  rw [List.getElem?_append_left (List.getElem?_eq_some_iff.mp hx).1]
  exact hx
theorem row_len (lt : List Int32) : (hy_row lt).length = lt.length + 2 := by simp [hy_row]

set_option maxHeartbeats 4000000 in
set_option maxRecDepth 100000 in
/-- the loop of findRowDigits -/
theorem lo_HR_findRowDigits {p_ : Program} {l : Launch} {e_ : Env} {s : State} {m : MethodId} {args : Array Value} {below : List Frame} {meth : Method} {c_ : Code} {Q : State → Prop} {G : ev_G} {A : Nat → Prop} (S : CallFix p_ m c_ b_HR_findRowDigits 5 s args lw_good "HyphenRows") (hE : ev_K G A s s.heap) {w : wd_M} {r lx : Nat} {B E : Nat → Nat} {F : Nat → Nat → Int32} {tot mn pn : Int32} {tg : Nat → Nat} {pa : List Nat} {Ps : List hy_P} {lt : List Int32} (hc : hr_c G w r B F tot mn (nI lt.length) pn) (hg : hr_g tg r B) (halP : al_ G w (B 1) (E 1) pa) (hpa : pa_ G w tg pa Ps) (hwp : (∀ p ∈ Ps, p.1 < 4 ∧ p.2.2.length = p.2.1.length + 1 ∧ 1 ≤ p.2.1.length ∧ p.2.1.length ≤ 12 ∧ ∀ x ∈ p.2.2, 0 ≤ x)) (hPs : Ps.length ≤ 150) (hrl : li_ (hy_row lt) (F 6)) (hlt30 : lt.length ≤ 30) (hlx : lx < 4) (kk : ∀ (g : Nat → Int32) (w1 : wd_M) (H : Heap) (locs : List Loc), (∀ j, j < 33 → hy_isD Ps lx (hy_row lt) j (g j)) → w1 = va_up w (B 7) (some (.inl (G.2.1 0, 33, .inl g))) → wd_W G.1 ev_cl A w1 s.heap H locs → ∀ ls : Array Slot, lv_has ls 5 [(0, .ref r)] → W p_ l e_ (rm_ 4 0 0) s m args below meth c_ H locs 0 0 Q (F0 m 85 ls [])) :
    ∀ (fu : Nat) (i : Nat) (xi : Int32) (g : Nat → Int32) (w1 : wd_M) (H : Heap) (locs : List Loc) (ls : Array Slot), pa.length < i + fu → i ≤ pa.length → xi = nI i → (∀ j, j < 33 → hy_isD (Ps.take i) lx (hy_row lt) j (g j)) → w1 = va_up w (B 7) (some (.inl (G.2.1 0, 33, .inl g))) → wd_W G.1 ev_cl A w1 s.heap H locs → lv_has ls 5 [(0, .ref r), (1, .int (nI lx)), (3, .int xi)] → W p_ l e_ (rm_ 4 0 0) s m args below meth c_ H locs 0 0 Q (F0 m 40 ls []) := by
  have hx := S.1
  have hb := S.2.1
  have hK := hE.1
  intro fu
  induction fu with
  | zero =>
    intro i xi g w1 H locs ls hfu hi exi hinv ew hW hl
    exact absurd hfu (by omega)
  | succ fu ih =>
    intro i xi g w1 H locs ls hfu hi exi hinv ew hW hl
    have hc0 := hc
    obtain ⟨hr0, a3, a4, a5, a6, a7, a8⟩ := id hc
    have a0 := a7
    have halP := al_upI halP a0 ew
    have hpa := pa_keep (tg2 := tg) hpa (up_kp ew (by rw [hg.2 7 (by omega)]; show ¬ (_ ∧ _); omega)) (fun _ _ => rfl) hPs
    obtain ⟨mo1, haP, he1⟩ := id halP
    have hpl := hpa.1
    have hr0 := wd_keep ew (wd_ne hr0 a0 (by simp)) hr0
    refine lv_iload_n hx hb d_HR_findRowDigits_40 rfl (lv_at hl 2 rfl) ?_
    refine lv_aload_n hx hb d_HR_findRowDigits_41 rfl (lv_at hl 0 rfl) ?_
    refine wd_get S i_HR hK hW hr0 rfl 1 (by decide) k_HR_16 rfl rfl d_HR_findRowDigits_42 ?_
    refine ct_goi hW (ct_runV (As := []) (rest := [.int xi]) (q := (R_AL, F_AL, 3)) S hE hW (c_AL_size l G _ _ (B 1) (E 1) (nI pa.length) mo1 haP) haP rfl kc_AL_size kz_AL k_HR_54 ki_AL_size kv_AL_size kd_AL_size ⟨Nat.le_of_ble_eq_true rfl, Nat.le_of_ble_eq_true rfl⟩ hl.1 (Nat.le_of_ble_eq_true rfl) d_HR_findRowDigits_45 ⟨Nat.le_of_ble_eq_true rfl, Nat.le_of_ble_eq_true rfl⟩) (fun v_3 u_1 H locs hp_2 hW => ?_)
    obtain ⟨hv, hu_4⟩ := hp_2
    rw [hu_4] at hW
    rw [hv]
    refine lv_icmp_ge (tgt := 85) hx hb d_HR_findRowDigits_48 (by decide) (fun h48 => ?_) (fun h48 => ?_)
    · exact kk g w1 _ _ (fun j hj => isD_all (hinv j hj) (by rw [exi] at h48; have := (nI_leI (by omega) (by omega)).mp h48; omega)) ew hW ls (lv_sub hl [0] rfl)
    · have hlt : i < pa.length := by rw [exi] at h48; exact Nat.lt_of_not_le (fun q => h48 (nI_le q (by omega)))
      obtain ⟨p, hpi⟩ : ∃ p, Ps[i]? = some p := ⟨_, List.getElem?_eq_getElem (by omega)⟩
      have hpm := hwp p (List.mem_of_getElem? hpi)
      obtain ⟨a, b, d, f, g2, e1, hp1, -⟩ := hpa.2 i p hpi
      obtain ⟨p1, p2, p3, p4, p5⟩ := id hp1
      refine lv_aload_n hx hb d_HR_findRowDigits_51 rfl (lv_at hl 0 rfl) ?_
      refine wd_get S i_HR hK hW hr0 rfl 1 (by decide) k_HR_16 rfl rfl d_HR_findRowDigits_52 ?_
      refine lv_iload_n hx hb d_HR_findRowDigits_55 rfl (lv_at hl 2 rfl) ?_
      rw [exi]
      refine ct_goq hW (ct_runV (As := [.int (nI i)]) (rest := []) (q := (R_AL, F_AL, 3)) S hE hW (c_AL_get l G _ _ (B 1) (E 1) pa i halP hlt) haP rfl kc_AL_get kz_AL k_HR_75 ki_AL_get kv_AL_get kd_AL_get ⟨Nat.le_of_ble_eq_true rfl, Nat.le_of_ble_eq_true rfl⟩ hl.1 (Nat.le_of_ble_eq_true rfl) d_HR_findRowDigits_56 ⟨Nat.le_of_ble_eq_true rfl, Nat.le_of_ble_eq_true rfl⟩) (fun v_7 u_5 H locs hp_6 hW => ?_)
      obtain ⟨hv2, hu_8⟩ := hp_6
      rw [hu_8] at hW
      rw [hv2, e1]
      refine W.eq (g2 := F0 m 59 ls [.ref a]) rfl ?_
      refine wd_cast S (T := F_Pa) (N := 3) k_HR_109 hK hW p1 rfl d_HR_findRowDigits_59 ?_
      refine lv_astore (lv' := [(4, .ref a), (0, .ref r), (1, .int (nI lx)), (3, .int xi)]) hx hb d_HR_findRowDigits_62 hl (by decide) rfl (fun ls hl => ?_)
      refine lv_aload hx hb d_HR_findRowDigits_64 (lv_at hl 0 rfl) ?_
      refine wd_get S i_Pa hK hW p1 rfl 0 (by decide) k_HR_155 rfl rfl d_HR_findRowDigits_66 ?_
      refine lv_iload_n hx hb d_HR_findRowDigits_69 rfl (lv_at hl 2 rfl) ?_
      refine lv_icmp_ne (tgt := 79) hx hb d_HR_findRowDigits_70 (by decide) (fun h70 => ?_) (fun h70 => ?_)
      · obtain ⟨xi2, exi2⟩ : ∃ y : Int32, y = xi + 1 := ⟨_, rfl⟩
        refine lv_iinc (v := xi2) (lv' := [(3, .int xi2), (4, .ref a), (0, .ref r), (1, .int (nI lx))]) hx hb d_HR_findRowDigits_79 hl (k := 3) rfl (by rw [exi2]; rfl) (by decide) rfl (fun ls hl => ?_)
        refine lv_goto (tgt := 40) hx hb d_HR_findRowDigits_82 (by decide) ?_
        exact ih (i + 1) xi2 g _ _ _ _ (by omega) hlt (by rw [exi2, exi]; exact nI_1 i) (fun j hj => isD_no (hinv j hj) hpi (fun q => h70 (by rw [q]))) ew hW (lv_sub hl [2, 3, 0] rfl)
      · refine lv_aload_n hx hb d_HR_findRowDigits_73 rfl (lv_at hl 1 rfl) ?_
        refine lv_aload hx hb d_HR_findRowDigits_74 (lv_at hl 0 rfl) ?_
        refine ct_gov hW (ct_runV (As := [.ref a]) (rest := []) (q := (R_HR, F_HR, 13)) S hE hW (c_HR_layOverRow l G _ _ r a b d lt.length B (fun k => if k = 7 then g else F k) f g2 p (hy_row lt) tot mn pn (hc_7 hc0 ew) hp1 hrl (row_len lt) hlt30 ⟨hpm.2.2.1, hpm.2.2.2.1⟩ hpm.2.1) hr0 rfl kc_HR_layOverRow kz_HR k_HR_181 ki_HR_layOverRow kv_HR_layOverRow kd_HR_layOverRow ⟨Nat.le_of_ble_eq_true rfl, Nat.le_of_ble_eq_true rfl⟩ hl.1 (Nat.le_of_ble_eq_true rfl) d_HR_findRowDigits_76 ⟨Nat.le_of_ble_eq_true rfl, Nat.le_of_ble_eq_true rfl⟩) (fun u_9 H locs hp_10 hW => ?_)
        obtain ⟨g3, hu, hg3⟩ := hp_10
        rw [if_pos rfl] at hg3
        obtain ⟨xi2, exi2⟩ : ∃ y : Int32, y = xi + 1 := ⟨_, rfl⟩
        refine lv_iinc (v := xi2) (lv' := [(3, .int xi2), (4, .ref a), (0, .ref r), (1, .int (nI lx))]) hx hb d_HR_findRowDigits_79 hl (k := 3) rfl (by rw [exi2]; rfl) (by decide) rfl (fun ls hl => ?_)
        refine lv_goto (tgt := 40) hx hb d_HR_findRowDigits_82 (by decide) ?_
        exact ih (i + 1) xi2 g3 _ _ _ _ (by omega) hlt (by rw [exi2, exi]; exact nI_1 i) (fun j hj => isD_yes (hinv j hj) hpi ((nI_eq (by omega) (by omega)).mp h70) hg3 (by rw [row_len]; omega)) (by rw [hu, ew]; exact bx_uu _ _ _ _) hW (lv_sub hl [2, 3, 0] rfl)

set_option maxHeartbeats 4000000 in
set_option maxRecDepth 100000 in
/-- findRowDigits(lx): the letters lt stand in the row -/
theorem c_HR_findRowDigits (l : Launch) (G : ev_G) (w : wd_M) (sz : Nat) (r lx : Nat) (B E : Nat → Nat) (F : Nat → Nat → Int32) (tot mn pn : Int32) (tg : Nat → Nat) (pa ta : List Nat) (Ps : List hy_P) (Ts : List hy_T) (lt : List Int32) (hc : hr_c G w r B F tot mn (nI lt.length) pn) (hg : hr_g tg r B) (halP : al_ G w (B 1) (E 1) pa) (hpa : pa_ G w tg pa Ps) (hwp : (∀ p ∈ Ps, p.1 < 4 ∧ p.2.2.length = p.2.1.length + 1 ∧ 1 ≤ p.2.1.length ∧ p.2.1.length ≤ 12 ∧ ∀ x ∈ p.2.2, 0 ≤ x)) (hPs : Ps.length ≤ 150) (hrl : li_ (hy_row lt) (F 6)) (hlt30 : lt.length ≤ 30) (hlx : lx < 4)(halT : al_ G w (B 2) (E 2) ta) (hta : ta_ G w tg ta Ts) (hwt : ∀ t ∈ Ts, t.1 < 4 ∧ t.2.1.length ≤ 30) (hTs : Ts.length ≤ 40) : ct_v l y_HR_findRowDigits b_HR_findRowDigits 5 none (rm_ 4 0 0) G w sz [.ref r, .int (nI lx)] (fun u => ∃ g : Nat → Int32, u = va_up w (B 7) (some (.inl (G.2.1 0, 33, .inl g))) ∧ ∀ k, k ≤ lt.length → hy_dig Ps Ts lx lt k (g (k + 1))) := by
  refine ct_enter (by decide +kernel) (Nat.le_of_ble_eq_true rfl) ?_
  intro p_ e_ s m below meth c_ hsz S hr hlocks hname hE hW ls hl
  have S : CallFix p_ m c_ b_HR_findRowDigits 5 s _ lw_good "HyphenRows" := S
  have hx := S.1
  have hb := S.2.1
  have hK := hE.1
  have hl : lv_has ls 5 [(0, .ref r), (1, .int (nI lx))] := hl
  obtain ⟨hr0, a3, a4, a5, a6, a7, a8⟩ := id hc
  refine lv_aload_n hx hb d_HR_findRowDigits_0 rfl (lv_at hl 0 rfl) ?_
  refine wd_get S i_HR hK hW hr0 rfl 10 (by decide) k_HR_45 rfl rfl d_HR_findRowDigits_1 ?_
  refine lv_iconst (v := 0) hx hb d_HR_findRowDigits_4 (by decide) ?_
  refine ct_gov hW (ct_runS (As := [.ref (B 7), .int 0]) (rest := []) S hE hW (c_Ar_fill l G _ _ (B 7) 33 0 (F 7) a7 (by omega)) kc_Ar_fill kz_Ar k_HR_174 ks_Ar_fill kd_Ar_fill ⟨Nat.le_of_ble_eq_true rfl, Nat.le_of_ble_eq_true rfl⟩ hl.1 (Nat.le_of_ble_eq_true rfl) d_HR_findRowDigits_5 ⟨Nat.le_of_ble_eq_true rfl, Nat.le_of_ble_eq_true rfl⟩) (fun u_1 H locs hp_2 hW => ?_)
  obtain ⟨g0, hg0, ew⟩ := hp_2
  have halP1 := al_upI halP a7 ew
  have halT1 := al_upI halT a7 ew
  have h79 : tg (B 7) = 9 := hg.2 7 (by omega)
  have hpa1 := pa_keep (tg2 := tg) hpa (up_kp ew (by rw [h79]; show ¬ (_ ∧ _); omega)) (fun _ _ => rfl) hPs
  have hta1 := ta_keep (tg2 := tg) hta (up_kp ew (by rw [h79]; show ¬ (_ ≤ _); omega)) (fun _ _ => rfl)
  have hc1 := hc_7 hc ew
  have hr0 := hc1.1
  refine lv_aload_n hx hb d_HR_findRowDigits_8 rfl (lv_at hl 0 rfl) ?_
  refine lv_iload_n hx hb d_HR_findRowDigits_9 rfl (lv_at hl 1 rfl) ?_
  refine ct_goi hW (ct_runV (As := [.int (nI lx)]) (rest := []) (q := (R_HR, F_HR, 13)) S hE hW (c_HR_exceptionWithWordsLetters l G _ _ r B E (fun k => if k = 7 then g0 else F k) tot mn pn lx tg ta Ts lt hc1 halT1 hta1 hwt hTs (row_tail hrl) hlt30 hlx) hr0 rfl kc_HR_exceptionWithWordsLetters kz_HR k_HR_127 ki_HR_exceptionWithWordsLetters kv_HR_exceptionWithWordsLetters kd_HR_exceptionWithWordsLetters ⟨Nat.le_of_ble_eq_true rfl, Nat.le_of_ble_eq_true rfl⟩ hl.1 (Nat.le_of_ble_eq_true rfl) d_HR_findRowDigits_10 ⟨Nat.le_of_ble_eq_true rfl, Nat.le_of_ble_eq_true rfl⟩) (fun v_6 u_4 H locs hp_5 hW => ?_)
  obtain ⟨hfm, hu_7⟩ := hp_5
  rw [hu_7] at hW
  refine lv_istore_n (lv' := [(2, .int v_6), (0, .ref r), (1, .int (nI lx))]) hx hb d_HR_findRowDigits_13 rfl hl (by decide) rfl (fun ls hl => ?_)
  refine lv_iload_n hx hb d_HR_findRowDigits_14 rfl (lv_at hl 0 rfl) ?_
  refine lv_iconst (v := -1) hx hb d_HR_findRowDigits_15 (by decide) ?_
  refine lv_icmp_eq (tgt := 38) hx hb d_HR_findRowDigits_16 (by decide) (fun h16 => ?_) (fun h16 => ?_)
  · have hfm1 : fm_ Ts (hy_tm lx lt) (-1) := by rw [h16] at hfm; exact hfm
    refine lv_iconst (v := 0) hx hb d_HR_findRowDigits_38 (by decide) ?_
    refine lv_istore_n (lv' := [(3, .int 0), (2, .int v_6), (0, .ref r), (1, .int (nI lx))]) hx hb d_HR_findRowDigits_39 rfl hl (by decide) rfl (fun ls hl => ?_)
    refine lo_HR_findRowDigits S hE hc hg halP hpa hwp hPs hrl hlt30 hlx (fun g w1 H locs hD ew hW ls hl => ?_) (pa.length + 1) 0 0 g0 _ _ _ _ (by omega) (Nat.zero_le _) nI_0.symm (fun j hj => isD_0 (hg0 j hj)) ew hW (lv_sub hl [2, 3, 0] rfl)
    exact ct_vret S hr hlocks hW (⟨g, ew, fun k hk => Or.inr ⟨hfm1, hD (k + 1) (by omega)⟩⟩) (Nat.le_refl _) (Nat.le_refl _) d_HR_findRowDigits_85
  · obtain ⟨i, t, exv, hti, htm, hbef⟩ : ∃ (i : Nat) (t : hy_T), v_6 = nI i ∧ Ts[i]? = some t ∧ hy_tm lx lt t ∧ ∀ (j : Nat) (y : hy_T), j < i → Ts[j]? = some y → ¬ hy_tm lx lt y := hfm.elim (fun q => absurd q.1 h16) id
    have hil : i < Ts.length := (List.getElem?_eq_some_iff.mp hti).1
    obtain ⟨a, b, f, e1, ⟨t1, -⟩, -⟩ := hta1.2.2 i t hti
    have htl := hta1.1
    obtain ⟨mo2, haT, he2⟩ := id halT1
    refine lv_aload_n hx hb d_HR_findRowDigits_19 rfl (lv_at hl 1 rfl) ?_
    refine lv_aload_n hx hb d_HR_findRowDigits_20 rfl (lv_at hl 1 rfl) ?_
    refine wd_get S i_HR hK hW hr0 rfl 2 (by decide) k_HR_19 rfl rfl d_HR_findRowDigits_21 ?_
    refine lv_iload_n hx hb d_HR_findRowDigits_24 rfl (lv_at hl 0 rfl) ?_
    rw [exv]
    refine ct_goq hW (ct_runV (As := [.int (nI i)]) (rest := [.ref r]) (q := (R_AL, F_AL, 3)) S hE hW (c_AL_get l G _ _ (B 2) (E 2) ta i halT1 (by omega)) haT rfl kc_AL_get kz_AL k_HR_75 ki_AL_get kv_AL_get kd_AL_get ⟨Nat.le_of_ble_eq_true rfl, Nat.le_of_ble_eq_true rfl⟩ hl.1 (Nat.le_of_ble_eq_true rfl) d_HR_findRowDigits_25 ⟨Nat.le_of_ble_eq_true rfl, Nat.le_of_ble_eq_true rfl⟩) (fun v_10 u_8 H locs hp_9 hW => ?_)
    obtain ⟨hv2, hu_11⟩ := hp_9
    rw [hu_11] at hW
    rw [hv2, e1]
    refine W.eq (g2 := F0 m 28 ls [.ref a, .ref r]) rfl ?_
    refine wd_cast S (T := F_To) (N := 3) k_HR_131 hK hW t1 rfl d_HR_findRowDigits_28 ?_
    refine wd_get S i_To hK hW t1 rfl 2 (by decide) k_HR_133 rfl rfl d_HR_findRowDigits_31 ?_
    refine ct_gov hW (ct_runV (As := [.int t.2.2]) (rest := []) (q := (R_HR, F_HR, 13)) S hE hW (c_HR_takeToldPlaces l G _ _ r lt.length B (fun k => if k = 7 then g0 else F k) tot mn pn t.2.2 hc1 hlt30) hr0 rfl kc_HR_takeToldPlaces kz_HR k_HR_178 ki_HR_takeToldPlaces kv_HR_takeToldPlaces kd_HR_takeToldPlaces ⟨Nat.le_of_ble_eq_true rfl, Nat.le_of_ble_eq_true rfl⟩ hl.1 (Nat.le_of_ble_eq_true rfl) d_HR_findRowDigits_34 ⟨Nat.le_of_ble_eq_true rfl, Nat.le_of_ble_eq_true rfl⟩) (fun u_12 H locs hp_13 hW => ?_)
    obtain ⟨g, hu, hbt⟩ := hp_13
    exact ct_vret S hr hlocks hW (⟨g, by rw [hu, ew]; exact bx_uu _ _ _ _, fun k hk => Or.inl ⟨i, t, Or.inr ⟨i, t, rfl, hti, htm, hbef⟩, hil, hti, hbt k hk⟩⟩) (Nat.le_refl _) (Nat.le_refl _) d_HR_findRowDigits_37
end
section
/-! WHAT EACH CALL DOES, as relations; class and reference keep the same ones, and each has one answer. -/
abbrev hy_S : Type := List hy_L × List hy_P × List hy_T × List Int32 × List Int32 × List Int32 × List Nat
def wf_S (x : hy_S) : Prop := hy_wf x.1 x.2.1 x.2.2.1 x.2.2.2.1 x.2.2.2.2.1 x.2.2.2.2.2.1 x.2.2.2.2.2.2
def hr_S (G : ev_G) (w : wd_M) (tg : Nat → Nat) (r : Nat) (x : hy_S) : Prop := hr_ G w tg r x.1 x.2.1 x.2.2.1 x.2.2.2.1 x.2.2.2.2.1 x.2.2.2.2.2.1 x.2.2.2.2.2.2
/-- a call of the class: what it answers and makes of the state; the reference's cells stay -/
def hq_ (G : ev_G) (w : wd_M) (tg : Nat → Nat) (r : Nat) (sp : Int32 → hy_S → Prop) (v : Int32) (u : wd_M) : Prop := ∃ (x : hy_S) (tg2 : Nat → Nat), sp v x ∧ hr_S G u tg2 r x ∧ ex_ w tg tg2 ∧ kp_ w u tg (fun t => 500 ≤ t ∧ t < 600)
def ok_s (x : Int32) : Prop := ¬ x < 0 ∧ ¬ 255 < x
def ok_l (x : Int32) : Prop := ¬ x < 0 ∧ ¬ 30 < x
def ok_d (x : Int32) : Prop := ¬ x < 0 ∧ ¬ 9 < x
def ok_e (x : Int32) : Prop := ¬ x < 0 ∧ ¬ 20 < x
theorem ok_s256 {x : Int32} : (¬ x < 0 ∧ ¬ 256 ≤ x) ↔ ok_s x := by
  have h : (256 : Int32) ≤ x ↔ 255 < x := by
    rw [Int32.le_iff_toInt_le, Int32.lt_iff_toInt_lt, show (256 : Int32).toInt = 256 by decide, show (255 : Int32).toInt = 255 by decide]
    omega
  unfold ok_s
  rw [h]
theorem ok_nat {x M : Int32} {n : Nat} (h : ¬ x < 0 ∧ ¬ M < x) (hM : M.toInt = n) : ∃ k : Nat, k ≤ n ∧ x = nI k := nI_of2 hM h.1 (Int32.not_lt.mp h.2)
def sp_language (s : hy_S) (v : Int32) (t : hy_S) : Prop := (¬ s.1.length < 4 ∧ v = -2 ∧ t = s) ∨ (s.1.length < 4 ∧ v = nI s.1.length ∧ t = (s.1 ++ [((fun _ => 0), (fun _ => 0), 2, 3, 0)], s.2))
def sp_code (x g c k : Int32) (s : hy_S) (v : Int32) (t : hy_S) : Prop := (¬ (nm_ x s.1.length ∧ ok_s g ∧ ok_l c) ∧ v = -1 ∧ t = s) ∨ ((nm_ x s.1.length ∧ ok_s g ∧ ok_l c) ∧ v = 1 ∧ ∃ (i gn : Nat) (lg : hy_L), x = nI i ∧ g = nI gn ∧ gn < 256 ∧ s.1[i]? = some lg ∧ t = (s.1.set i (upd lg.1 gn c, upd lg.2.1 gn k, lg.2.2), s.2))
def sp_ends (x a b k : Int32) (s : hy_S) (v : Int32) (t : hy_S) : Prop := (¬ (nm_ x s.1.length ∧ ok_e a ∧ ok_e b) ∧ v = -1 ∧ t = s) ∨ ((nm_ x s.1.length ∧ ok_e a ∧ ok_e b) ∧ v = 1 ∧ ∃ (i an bn : Nat) (lg : hy_L), x = nI i ∧ a = nI an ∧ an ≤ 20 ∧ b = nI bn ∧ bn ≤ 20 ∧ s.1[i]? = some lg ∧ t = (s.1.set i (lg.1, lg.2.1, an, bn, k), s.2))
def sp_next (x d : Int32) (s : hy_S) (v : Int32) (t : hy_S) : Prop := (¬ (ok_l x ∧ ok_d d) ∧ v = -1 ∧ t = s) ∨ ((ok_l x ∧ ok_d d) ∧ ¬ s.2.2.2.1.length < 12 ∧ v = -2 ∧ t = s) ∨ ((ok_l x ∧ ok_d d) ∧ s.2.2.2.1.length < 12 ∧ v = nI (s.2.2.2.1.length + 1) ∧ t = (s.1, s.2.1, s.2.2.1, s.2.2.2.1 ++ [x], s.2.2.2.2.1 ++ [d], s.2.2.2.2.2))
def sp_sign (x : Int32) (s : hy_S) (v : Int32) (t : hy_S) : Prop := (¬ ok_s x ∧ v = -1 ∧ t = s) ∨ (ok_s x ∧ ¬ s.2.2.2.2.2.1.length < 30 ∧ v = -2 ∧ t = s) ∨ (ok_s x ∧ s.2.2.2.2.2.1.length < 30 ∧ v = nI (s.2.2.2.2.2.1.length + 1) ∧ t = (s.1, s.2.1, s.2.2.1, s.2.2.2.1, s.2.2.2.2.1, s.2.2.2.2.2.1 ++ [x], s.2.2.2.2.2.2))
def sp_clear (s : hy_S) (v : Int32) (t : hy_S) : Prop := v = nI s.2.2.2.2.2.1.length ∧ t = (s.1, s.2.1, s.2.2.1, s.2.2.2.1, s.2.2.2.2.1, [], s.2.2.2.2.2.2)
def sp_at (x : Int32) (s : hy_S) (v : Int32) (t : hy_S) : Prop := t = s ∧ ((¬ nm_ x s.2.2.2.2.2.2.length ∧ v = -1) ∨ ∃ k p : Nat, x = nI k ∧ s.2.2.2.2.2.2[k]? = some p ∧ v = nI p)
def sp_patterns (s : hy_S) (v : Int32) (t : hy_S) : Prop := v = nI s.2.1.length ∧ t = s
def sp_exceptions (s : hy_S) (v : Int32) (t : hy_S) : Prop := v = nI s.2.2.1.length ∧ t = s
def sp_pattern (x d : Int32) (s : hy_S) (v : Int32) (t : hy_S) : Prop := (¬ (nm_ x s.1.length ∧ ok_d d) ∧ v = -1 ∧ t = s) ∨ ((nm_ x s.1.length ∧ ok_d d) ∧ ∃ i : Nat, x = nI i ∧ (
  (¬ hy_pat s.2.2.2.1 ∧ v = -3 ∧ t = (s.1, s.2.1, s.2.2.1, [], [], s.2.2.2.2.2)) ∨
  (hy_pat s.2.2.2.1 ∧ ∃ k : Nat, fm_ s.2.1 (fun p => p.1 = i ∧ p.2.1 = s.2.2.2.1) (nI k) ∧ k < s.2.1.length ∧ v = nI k ∧ t = (s.1, s.2.1.set k (i, s.2.2.2.1, s.2.2.2.2.1 ++ [d]), s.2.2.1, [], [], s.2.2.2.2.2)) ∨
  (hy_pat s.2.2.2.1 ∧ fm_ s.2.1 (fun p => p.1 = i ∧ p.2.1 = s.2.2.2.1) (-1) ∧ ¬ (s.2.1.length < 150 ∧ hy_tot s.2.1 + s.2.2.2.1.length ≤ 900) ∧ v = -2 ∧ t = (s.1, s.2.1, s.2.2.1, [], [], s.2.2.2.2.2)) ∨
  (hy_pat s.2.2.2.1 ∧ fm_ s.2.1 (fun p => p.1 = i ∧ p.2.1 = s.2.2.2.1) (-1) ∧ (s.2.1.length < 150 ∧ hy_tot s.2.1 + s.2.2.2.1.length ≤ 900) ∧ v = nI s.2.1.length ∧ t = (s.1, s.2.1 ++ [(i, s.2.2.2.1, s.2.2.2.2.1 ++ [d])], s.2.2.1, [], [], s.2.2.2.2.2))))
def sp_exception (x b : Int32) (s : hy_S) (v : Int32) (t : hy_S) : Prop := (¬ nm_ x s.1.length ∧ v = -1 ∧ t = s) ∨ (nm_ x s.1.length ∧ ∃ (i : Nat) (lg : hy_L), x = nI i ∧ s.1[i]? = some lg ∧ (
  (¬ (0 < s.2.2.2.2.2.1.length ∧ hy_sp lg s.2.2.2.2.2.1) ∧ v = -3 ∧ t = s) ∨
  ((0 < s.2.2.2.2.2.1.length ∧ hy_sp lg s.2.2.2.2.2.1) ∧ ∃ (k : Nat) (p : hy_T), fm_ s.2.2.1 (hy_tm i (hy_let lg s.2.2.2.2.2.1)) (nI k) ∧ k < s.2.2.1.length ∧ s.2.2.1[k]? = some p ∧ v = nI k ∧ t = (s.1, s.2.1, s.2.2.1.set k (p.1, p.2.1, b), s.2.2.2)) ∨
  ((0 < s.2.2.2.2.2.1.length ∧ hy_sp lg s.2.2.2.2.2.1) ∧ fm_ s.2.2.1 (hy_tm i (hy_let lg s.2.2.2.2.2.1)) (-1) ∧ ¬ s.2.2.1.length < 40 ∧ v = -2 ∧ t = s) ∨
  ((0 < s.2.2.2.2.2.1.length ∧ hy_sp lg s.2.2.2.2.2.1) ∧ fm_ s.2.2.1 (hy_tm i (hy_let lg s.2.2.2.2.2.1)) (-1) ∧ s.2.2.1.length < 40 ∧ v = nI s.2.2.1.length ∧ t = (s.1, s.2.1, s.2.2.1 ++ [(i, hy_let lg s.2.2.2.2.2.1, b)], s.2.2.2))))
def sp_drop (x : Int32) (s : hy_S) (v : Int32) (t : hy_S) : Prop := (¬ nm_ x s.2.2.1.length ∧ v = -1 ∧ t = s) ∨ (nm_ x s.2.2.1.length ∧ v = 1 ∧ ∃ k : Nat, x = nI k ∧ t = (s.1, s.2.1, s.2.2.1.eraseIdx k, s.2.2.2))
def sp_run (x : Int32) (s : hy_S) (v : Int32) (t : hy_S) : Prop := (¬ nm_ x s.1.length ∧ v = -1 ∧ t = s) ∨ (nm_ x s.1.length ∧ ∃ (i : Nat) (lg : hy_L), x = nI i ∧ s.1[i]? = some lg ∧ (
  ((hy_wh lg s.2.2.2.2.2.1 ∨ ¬ hy_sp lg s.2.2.2.2.2.1) ∧ v = 0 ∧ t = (s.1, s.2.1, s.2.2.1, s.2.2.2.1, s.2.2.2.2.1, s.2.2.2.2.2.1, [])) ∨
  (¬ (hy_wh lg s.2.2.2.2.2.1 ∨ ¬ hy_sp lg s.2.2.2.2.2.1) ∧ v = nI (hy_pls s.2.1 s.2.2.1 i lg s.2.2.2.2.2.1 s.2.2.2.2.2.1.length).length ∧ t = (s.1, s.2.1, s.2.2.1, s.2.2.2.1, s.2.2.2.2.1, s.2.2.2.2.2.1, hy_pls s.2.1 s.2.2.1 i lg s.2.2.2.2.2.1 s.2.2.2.2.2.1.length))))
def sp_digit (x y : Int32) (s : hy_S) (v : Int32) (t : hy_S) : Prop := t = s ∧ ((¬ (nm_ x s.1.length ∧ ¬ y < 0 ∧ ¬ nI s.2.2.2.2.2.1.length < y) ∧ v = -1) ∨ ((nm_ x s.1.length ∧ ¬ y < 0 ∧ ¬ nI s.2.2.2.2.2.1.length < y) ∧ ∃ (i k : Nat) (lg : hy_L), x = nI i ∧ y = nI k ∧ k ≤ s.2.2.2.2.2.1.length ∧ s.1[i]? = some lg ∧ ((¬ hy_sp lg s.2.2.2.2.2.1 ∧ v = 0) ∨ (hy_sp lg s.2.2.2.2.2.1 ∧ hy_dig s.2.1 s.2.2.1 i (hy_let lg s.2.2.2.2.2.1) k v))))
/-! THE CLASS'S OTHER PARTS behind a write of one of its own cells -/
def hs_ (G : ev_G) (w : wd_M) (tg : Nat → Nat) (B E : Nat → Nat) (la pa ta : List Nat) (Ls : List hy_L) (Ps : List hy_P) (Ts : List hy_T) : Prop :=
  (al_ G w (B 0) (E 0) la ∧ al_ G w (B 1) (E 1) pa ∧ al_ G w (B 2) (E 2) ta ∧ ∀ i, i < 3 → w (E i) ≠ none → tg (E i) = 11 + i) ∧ la_ G w tg la Ls ∧ pa_ G w tg pa Ps ∧ ta_ G w tg ta Ts
theorem kp_tr {w w1 w2 : wd_M} {tg : Nat → Nat} {P : Nat → Prop} (h1 : kp_ w w1 tg P) (h2 : kp_ w1 w2 tg P) : kp_ w w2 tg P := fun x hx hp => by
  rw [h2 x (by rw [h1 x hx hp]; exact hx) hp, h1 x hx hp]
theorem kp_rf {w : wd_M} {tg : Nat → Nat} {P : Nat → Prop} : kp_ w w tg P := fun _ _ _ => rfl
theorem ex_rf {w : wd_M} {tg : Nat → Nat} : ex_ w tg tg := fun _ _ => rfl
theorem al_up0 {G : ev_G} {w w1 : wd_M} {a e b : Nat} {els : List Nat} {x : Option va_E} (h : al_ G w a e els) (h1 : a ≠ b) (h2 : w e ≠ none → e ≠ b) (e1 : w1 = va_up w b x) : al_ G w1 a e els := by
  refine al_keep h (by rw [e1, va_up_ne _ _ h1]) (fun q => by rw [e1, va_up_ne _ _ (h2 q)])
theorem hs_up {G : ev_G} {w w1 : wd_M} {tg : Nat → Nat} {B E : Nat → Nat} {la pa ta : List Nat} {Ls : List hy_L} {Ps : List hy_P} {Ts : List hy_T} {a : Nat} {x y : va_E} (h : hs_ G w tg B E la pa ta Ls Ps Ts) (hLs : Ls.length ≤ 4) (hPs : Ps.length ≤ 150) (hB : ∀ i, i < 3 → tg (B i) = 2 + i) (ha : w a = some y) (e1 : w1 = va_up w a (some x)) (ht : tg a = 1 ∨ (5 ≤ tg a ∧ tg a < 11)) : hs_ G w1 tg B E la pa ta Ls Ps Ts := by
  obtain ⟨⟨h0, h1, h2, hE⟩, hl, hp, h3⟩ := h
  have nB : ∀ i, i < 3 → B i ≠ a := fun i hi => tg_ne (tg := tg) (by rw [hB i hi]; omega)
  have nE : ∀ i, i < 3 → w (E i) ≠ none → E i ≠ a := fun i hi hn => tg_ne (tg := tg) (by rw [hE i hi hn]; omega)
  refine ⟨⟨al_up0 h0 (nB 0 (by omega)) (nE 0 (by omega)) e1, al_up0 h1 (nB 1 (by omega)) (nE 1 (by omega)) e1, al_up0 h2 (nB 2 (by omega)) (nE 2 (by omega)) e1, fun i hi hn => hE i hi (fun q => hn ?_)⟩, la_keep hl (up_kp e1 (by show ¬ (_ ∧ _); omega)) ex_rf hLs, pa_keep hp (up_kp e1 (by show ¬ (_ ∧ _); omega)) ex_rf hPs, ta_keep h3 (up_kp e1 (by show ¬ (_ ≤ _); omega)) ex_rf⟩
  rw [e1]
  exact (up_dom ha).mpr q
end
section
/-! THE CLASS: its calls (those that make no cell). -/

theorem nar01 {k : Int32} (h : k = 0 ∨ k = 1) : narrow .boolean (.int k) = .int k := by rcases h with q | q <;> rw [q] <;> rfl
theorem fit01 {k : Int32} (h : k = 0 ∨ k = 1) : fits .boolean (.int k) = true := by rcases h with q | q <;> rw [q] <;> rfl
theorem vpn01 {k : Int32} (h : k = 0 ∨ k = 1) : vp_nar .boolean k = k := by rcases h with q | q <;> rw [q] <;> rfl
/-- one language is another now -/
theorem la_upd {G : ev_G} {w u : wd_M} {tg : Nat → Nat} {la : List Nat} {Ls : List hy_L} {i a b z : Nat} {lg2 : hy_L} (h : la_ G w tg la Ls) (ha : la[i]? = some a) (ta1 : tg a = 1000 + 3 * i) (tb : tg b = 1001 + 3 * i) (tz : tg z = 1002 + 3 * i) (hk : ∀ x, w x ≠ none → ¬ (1000 + 3 * i ≤ tg x ∧ tg x ≤ 1002 + 3 * i) → u x = w x) (h1 : la_1 G u a b z lg2) : la_ G u tg la (Ls.set i lg2) := by
  refine ⟨by rw [List.length_set]; exact h.1, fun j lg hj => ?_⟩
  by_cases hji : j = i
  · subst hji
    have hl : j < (Ls.set j lg2).length := (List.getElem?_eq_some_iff.mp hj).1
    rw [List.length_set] at hl
    rw [List.getElem?_set_self hl] at hj
    cases hj
    exact ⟨a, b, z, ha, h1, ta1, tb, tz⟩
  · rw [List.getElem?_set_ne (Ne.symm hji)] at hj
    obtain ⟨a2, b2, z2, g1, ⟨g2, g3, g4⟩, t1, t2, t3⟩ := h.2 j lg hj
    exact ⟨a2, b2, z2, g1, ⟨by rw [hk a2 (wd_some g2) (by omega)]; exact g2, by rw [hk b2 (wd_some g3) (by omega)]; exact g3, by rw [hk z2 (wd_some g4) (by omega)]; exact g4⟩, t1, t2, t3⟩
/-- the parts behind a change of languages alone -/
theorem hs_la {G : ev_G} {w u : wd_M} {tg : Nat → Nat} {B E : Nat → Nat} {la pa ta : List Nat} {Ls Ls2 : List hy_L} {Ps : List hy_P} {Ts : List hy_T} (h : hs_ G w tg B E la pa ta Ls Ps Ts) (hPs : Ps.length ≤ 150) (hB : ∀ i, i < 3 → tg (B i) = 2 + i) (hk : ∀ x, w x ≠ none → ¬ (1000 ≤ tg x ∧ tg x < 2000) → u x = w x) (hd : ∀ x, u x = none ↔ w x = none) (hl : la_ G u tg la Ls2) : hs_ G u tg B E la pa ta Ls2 Ps Ts := by
  obtain ⟨⟨h0, h1, h2, hE⟩, -, hp, h3⟩ := h
  have kB : ∀ i, i < 3 → (∃ y, w (B i) = some y) → u (B i) = w (B i) := fun i hi hy => by obtain ⟨y, hy⟩ := hy; exact hk _ (wd_some hy) (by rw [hB i hi]; omega)
  have kE : ∀ i, i < 3 → w (E i) ≠ none → u (E i) = w (E i) := fun i hi hn => hk _ hn (by rw [hE i hi hn]; omega)
  exact ⟨⟨al_keep h0 (kB 0 (by omega) ⟨_, h0.choose_spec.1⟩) (kE 0 (by omega)), al_keep h1 (kB 1 (by omega) ⟨_, h1.choose_spec.1⟩) (kE 1 (by omega)), al_keep h2 (kB 2 (by omega) ⟨_, h2.choose_spec.1⟩) (kE 2 (by omega)), fun i hi hn => hE i hi (fun q => hn ((hd _).mpr q))⟩, hl, pa_keep hp (fun x hx hq => hk x hx (fun z => by have hq : 2000 ≤ tg x ∧ tg x < 10000 := hq; omega)) ex_rf hPs, ta_keep h3 (fun x hx hq => hk x hx (fun z => by have hq : 10000 ≤ tg x := hq; omega)) ex_rf⟩
/-- the class's own cells, where a write spares tags below 11 -/
theorem hc_kp {G : ev_G} {w u : wd_M} {tg : Nat → Nat} {r : Nat} {B : Nat → Nat} {F : Nat → Nat → Int32} {tot mn wn pn : Int32} (hc : hr_c G w r B F tot mn wn pn) (hg : hr_g tg r B) (hk : ∀ x, w x ≠ none → tg x < 11 → u x = w x) : hr_c G u r B F tot mn wn pn := by
  obtain ⟨hr0, a3, a4, a5, a6, a7, a8⟩ := hc
  refine ⟨?_, ?_, ?_, ?_, ?_, ?_, ?_⟩
  · rw [hk r (wd_some hr0) (by rw [hg.1]; omega)]; exact hr0
  · rw [hk _ (wd_some a3) (by rw [hg.2 3 (by omega)]; omega)]; exact a3
  · rw [hk _ (wd_some a4) (by rw [hg.2 4 (by omega)]; omega)]; exact a4
  · rw [hk _ (wd_some a5) (by rw [hg.2 5 (by omega)]; omega)]; exact a5
  · rw [hk _ (wd_some a6) (by rw [hg.2 6 (by omega)]; omega)]; exact a6
  · rw [hk _ (wd_some a7) (by rw [hg.2 7 (by omega)]; omega)]; exact a7
  · rw [hk _ (wd_some a8) (by rw [hg.2 8 (by omega)]; omega)]; exact a8

set_option maxHeartbeats 4000000 in
set_option maxRecDepth 100000 in
/-- at -/
theorem c_HR_at (l : Launch) (G : ev_G) (w : wd_M) (sz : Nat) (tg : Nat → Nat) (r : Nat) (Ls : List hy_L) (Ps : List hy_P) (Ts : List hy_T) (ml md wd : List Int32) (pl : List Nat) (x : Int32) (h : hr_ G w tg r Ls Ps Ts ml md wd pl) (hwf : hy_wf Ls Ps Ts ml md wd pl) : ct_i l y_HR_at b_HR_at 2 (some FieldType.int) (rm_ 1 0 0) G w sz [.ref r, .int x] (hq_ G w tg r (sp_at x (Ls, Ps, Ts, ml, md, wd, pl))) := by
  refine ct_enter (by decide +kernel) (Nat.le_of_ble_eq_true rfl) ?_
  intro p_ e_ s m below meth c_ hsz S hr hlocks hname hE hW ls hl
  have S : CallFix p_ m c_ b_HR_at 2 s _ lw_good "HyphenRows" := S
  have hx := S.1
  have hb := S.2.1
  have hK := hE.1
  have hl : lv_has ls 2 [(0, .ref r), (1, .int x)] := hl
  obtain ⟨B, E, F, la, pa, ta, hc, hg, hal, hla, hpa, hta, hml, hmd, hwd, hpl⟩ := id h
  have hs : hs_ G w tg B E la pa ta Ls Ps Ts := ⟨hal, hla, hpa, hta⟩
  obtain ⟨hr0, a3, a4, a5, a6, a7, a8⟩ := id hc
  obtain ⟨wL, wP, wT, wm, wml, wwd, wpl, wtot, wmx, wdx, wws, wplx, wlg, wps, wts⟩ := id hwf
  have hB3 : ∀ i, i < 3 → tg (B i) = 2 + i := fun i hi => hg.2 i (by omega)
  have hkp : kp_ w w tg (fun t => 500 ≤ t ∧ t < 600) := kp_rf
  refine lv_iload_n hx hb d_HR_at_0 rfl (lv_at hl 1 rfl) ?_
  refine lv_if_lt (tgt := 12) hx hb d_HR_at_1 (by decide) (fun h1 => ?_) (fun h1 => ?_)
  · refine lv_iconst (v := -1) hx hb d_HR_at_12 (by decide) ?_
    exact ct_iret S hr rfl hlocks hW (⟨_, tg, ⟨rfl, Or.inl ⟨fun q => q.1 h1, rfl⟩⟩, h, ex_rf, kp_rf⟩) (Nat.le_refl _) (Nat.le_refl _) d_HR_at_13
  · refine lv_iload_n hx hb d_HR_at_4 rfl (lv_at hl 1 rfl) ?_
    refine lv_aload_n hx hb d_HR_at_5 rfl (lv_at hl 0 rfl) ?_
    refine wd_get S i_HR hK hW hr0 rfl 12 (by decide) k_HR_51 rfl rfl d_HR_at_6 ?_
    refine lv_icmp_lt (tgt := 14) hx hb d_HR_at_9 (by decide) (fun h9 => ?_) (fun h9 => ?_)
    · obtain ⟨k, hk, rfl⟩ := nm_of (n := pl.length) ⟨h1, Int32.not_le.mpr h9⟩ (by omega)
      have hpk : pl[k]? = some pl[k] := List.getElem?_eq_getElem hk
      refine lv_aload_n hx hb d_HR_at_14 rfl (lv_at hl 0 rfl) ?_
      refine wd_get S i_HR hK hW hr0 rfl 11 (by decide) k_HR_48 rfl rfl d_HR_at_15 ?_
      refine lv_iload_n hx hb d_HR_at_18 rfl (lv_at hl 1 rfl) ?_
      refine wd_iald S hK hW 0 a8 rfl (vp_in_nI (by omega) (by omega)) d_HR_at_19 ?_
      rw [nI_clamp (by omega), hpl k (nI pl[k]) (by rw [List.getElem?_map, hpk]; rfl)]
      exact ct_iret S hr rfl hlocks hW (⟨_, tg, ⟨rfl, Or.inr ⟨k, pl[k], rfl, hpk, rfl⟩⟩, h, ex_rf, kp_rf⟩) (Nat.le_refl _) (Nat.le_refl _) d_HR_at_20
    · refine lv_iconst (v := -1) hx hb d_HR_at_12 (by decide) ?_
      exact ct_iret S hr rfl hlocks hW (⟨_, tg, ⟨rfl, Or.inl ⟨fun q => q.2 (Int32.not_lt.mp h9), rfl⟩⟩, h, ex_rf, kp_rf⟩) (Nat.le_refl _) (Nat.le_refl _) d_HR_at_13

set_option maxHeartbeats 4000000 in
set_option maxRecDepth 100000 in
/-- patterns -/
theorem c_HR_patterns (l : Launch) (G : ev_G) (w : wd_M) (sz : Nat) (tg : Nat → Nat) (r : Nat) (Ls : List hy_L) (Ps : List hy_P) (Ts : List hy_T) (ml md wd : List Int32) (pl : List Nat) (h : hr_ G w tg r Ls Ps Ts ml md wd pl) (hwf : hy_wf Ls Ps Ts ml md wd pl) : ct_i l y_HR_patterns b_HR_patterns 1 (some FieldType.int) (rm_ 1 0 0) G w sz [.ref r] (hq_ G w tg r (sp_patterns (Ls, Ps, Ts, ml, md, wd, pl))) := by
  refine ct_enter (by decide +kernel) (Nat.le_of_ble_eq_true rfl) ?_
  intro p_ e_ s m below meth c_ hsz S hr hlocks hname hE hW ls hl
  have S : CallFix p_ m c_ b_HR_patterns 1 s _ lw_good "HyphenRows" := S
  have hx := S.1
  have hb := S.2.1
  have hK := hE.1
  have hl : lv_has ls 1 [(0, .ref r)] := hl
  obtain ⟨B, E, F, la, pa, ta, hc, hg, hal, hla, hpa, hta, hml, hmd, hwd, hpl⟩ := id h
  have hs : hs_ G w tg B E la pa ta Ls Ps Ts := ⟨hal, hla, hpa, hta⟩
  obtain ⟨hr0, a3, a4, a5, a6, a7, a8⟩ := id hc
  obtain ⟨wL, wP, wT, wm, wml, wwd, wpl, wtot, wmx, wdx, wws, wplx, wlg, wps, wts⟩ := id hwf
  have hB3 : ∀ i, i < 3 → tg (B i) = 2 + i := fun i hi => hg.2 i (by omega)
  have hkp : kp_ w w tg (fun t => 500 ≤ t ∧ t < 600) := kp_rf
  obtain ⟨mo1, haX, he1⟩ := id hal.2.1
  refine lv_aload_n hx hb d_HR_patterns_0 rfl (lv_at hl 0 rfl) ?_
  refine wd_get S i_HR hK hW hr0 rfl 1 (by decide) k_HR_16 rfl rfl d_HR_patterns_1 ?_
  refine ct_goi hW (ct_runV (As := []) (rest := []) (q := (R_AL, F_AL, 3)) S hE hW (c_AL_size l G _ _ (B 1) (E 1) (nI pa.length) mo1 haX) haX rfl kc_AL_size kz_AL k_HR_54 ki_AL_size kv_AL_size kd_AL_size ⟨Nat.le_of_ble_eq_true rfl, Nat.le_of_ble_eq_true rfl⟩ hl.1 (Nat.le_of_ble_eq_true rfl) d_HR_patterns_4 ⟨Nat.le_of_ble_eq_true rfl, Nat.le_of_ble_eq_true rfl⟩) (fun v_3 u_1 H locs hp_2 hW => ?_)
  obtain ⟨hv, hu_4⟩ := hp_2
  rw [hu_4] at hW
  exact ct_iret S hr rfl hlocks hW (⟨_, tg, ⟨by rw [hv, hpa.1], rfl⟩, h, ex_rf, kp_rf⟩) (Nat.le_refl _) (Nat.le_refl _) d_HR_patterns_7

set_option maxHeartbeats 4000000 in
set_option maxRecDepth 100000 in
/-- exceptions -/
theorem c_HR_exceptions (l : Launch) (G : ev_G) (w : wd_M) (sz : Nat) (tg : Nat → Nat) (r : Nat) (Ls : List hy_L) (Ps : List hy_P) (Ts : List hy_T) (ml md wd : List Int32) (pl : List Nat) (h : hr_ G w tg r Ls Ps Ts ml md wd pl) (hwf : hy_wf Ls Ps Ts ml md wd pl) : ct_i l y_HR_exceptions b_HR_exceptions 1 (some FieldType.int) (rm_ 1 0 0) G w sz [.ref r] (hq_ G w tg r (sp_exceptions (Ls, Ps, Ts, ml, md, wd, pl))) := by
  refine ct_enter (by decide +kernel) (Nat.le_of_ble_eq_true rfl) ?_
  intro p_ e_ s m below meth c_ hsz S hr hlocks hname hE hW ls hl
  have S : CallFix p_ m c_ b_HR_exceptions 1 s _ lw_good "HyphenRows" := S
  have hx := S.1
  have hb := S.2.1
  have hK := hE.1
  have hl : lv_has ls 1 [(0, .ref r)] := hl
  obtain ⟨B, E, F, la, pa, ta, hc, hg, hal, hla, hpa, hta, hml, hmd, hwd, hpl⟩ := id h
  have hs : hs_ G w tg B E la pa ta Ls Ps Ts := ⟨hal, hla, hpa, hta⟩
  obtain ⟨hr0, a3, a4, a5, a6, a7, a8⟩ := id hc
  obtain ⟨wL, wP, wT, wm, wml, wwd, wpl, wtot, wmx, wdx, wws, wplx, wlg, wps, wts⟩ := id hwf
  have hB3 : ∀ i, i < 3 → tg (B i) = 2 + i := fun i hi => hg.2 i (by omega)
  have hkp : kp_ w w tg (fun t => 500 ≤ t ∧ t < 600) := kp_rf
  obtain ⟨mo2, haX, he2⟩ := id hal.2.2.1
  refine lv_aload_n hx hb d_HR_exceptions_0 rfl (lv_at hl 0 rfl) ?_
  refine wd_get S i_HR hK hW hr0 rfl 2 (by decide) k_HR_19 rfl rfl d_HR_exceptions_1 ?_
  refine ct_goi hW (ct_runV (As := []) (rest := []) (q := (R_AL, F_AL, 3)) S hE hW (c_AL_size l G _ _ (B 2) (E 2) (nI ta.length) mo2 haX) haX rfl kc_AL_size kz_AL k_HR_54 ki_AL_size kv_AL_size kd_AL_size ⟨Nat.le_of_ble_eq_true rfl, Nat.le_of_ble_eq_true rfl⟩ hl.1 (Nat.le_of_ble_eq_true rfl) d_HR_exceptions_4 ⟨Nat.le_of_ble_eq_true rfl, Nat.le_of_ble_eq_true rfl⟩) (fun v_3 u_1 H locs hp_2 hW => ?_)
  obtain ⟨hv, hu_4⟩ := hp_2
  rw [hu_4] at hW
  exact ct_iret S hr rfl hlocks hW (⟨_, tg, ⟨by rw [hv, hta.1], rfl⟩, h, ex_rf, kp_rf⟩) (Nat.le_refl _) (Nat.le_refl _) d_HR_exceptions_7

set_option maxHeartbeats 4000000 in
set_option maxRecDepth 100000 in
/-- clear -/
theorem c_HR_clear (l : Launch) (G : ev_G) (w : wd_M) (sz : Nat) (tg : Nat → Nat) (r : Nat) (Ls : List hy_L) (Ps : List hy_P) (Ts : List hy_T) (ml md wd : List Int32) (pl : List Nat) (h : hr_ G w tg r Ls Ps Ts ml md wd pl) (hwf : hy_wf Ls Ps Ts ml md wd pl) : ct_i l y_HR_clear b_HR_clear 2 (some FieldType.int) (rm_ 1 0 0) G w sz [.ref r] (hq_ G w tg r (sp_clear (Ls, Ps, Ts, ml, md, wd, pl))) := by
  refine ct_enter (by decide +kernel) (Nat.le_of_ble_eq_true rfl) ?_
  intro p_ e_ s m below meth c_ hsz S hr hlocks hname hE hW ls hl
  have S : CallFix p_ m c_ b_HR_clear 2 s _ lw_good "HyphenRows" := S
  have hx := S.1
  have hb := S.2.1
  have hK := hE.1
  have hl : lv_has ls 2 [(0, .ref r)] := hl
  obtain ⟨B, E, F, la, pa, ta, hc, hg, hal, hla, hpa, hta, hml, hmd, hwd, hpl⟩ := id h
  have hs : hs_ G w tg B E la pa ta Ls Ps Ts := ⟨hal, hla, hpa, hta⟩
  obtain ⟨hr0, a3, a4, a5, a6, a7, a8⟩ := id hc
  obtain ⟨wL, wP, wT, wm, wml, wwd, wpl, wtot, wmx, wdx, wws, wplx, wlg, wps, wts⟩ := id hwf
  have hB3 : ∀ i, i < 3 → tg (B i) = 2 + i := fun i hi => hg.2 i (by omega)
  have hkp : kp_ w w tg (fun t => 500 ≤ t ∧ t < 600) := kp_rf
  refine lv_aload_n hx hb d_HR_clear_0 rfl (lv_at hl 0 rfl) ?_
  refine wd_get S i_HR hK hW hr0 rfl 8 (by decide) k_HR_39 rfl rfl d_HR_clear_1 ?_
  refine lv_topi (fun x_1 ex_1 => ?_)
  refine lv_istore_n (lv' := [(1, .int x_1), (0, .ref r)]) hx hb d_HR_clear_4 rfl hl (by decide) rfl (fun ls hl => ?_)
  refine lv_aload_n hx hb d_HR_clear_5 rfl (lv_at hl 1 rfl) ?_
  refine lv_iconst (v := 0) hx hb d_HR_clear_6 (by decide) ?_
  refine wd_put S i_HR t_HR t_HR_ok n_HR hK hW hr0 rfl 8 (by decide) k_HR_39 rfl rfl rfl rfl (Nat.le_of_ble_eq_true rfl) d_HR_clear_7 (fun H locs w_2 ew_2 hW => ?_)
  have hs := hs_up hs wL wP hB3 hr0 ew_2 (Or.inl hg.1)
  have hkp := kp_tr hkp (up_kp ew_2 (by rw [hg.1]; show ¬ (_ ∧ _); omega))
  have a3 := wd_keep ew_2 (wd_ne a3 hr0 (by simp)) a3
  have a4 := wd_keep ew_2 (wd_ne a4 hr0 (by simp)) a4
  have a5 := wd_keep ew_2 (wd_ne a5 hr0 (by simp)) a5
  have a6 := wd_keep ew_2 (wd_ne a6 hr0 (by simp)) a6
  have a7 := wd_keep ew_2 (wd_ne a7 hr0 (by simp)) a7
  have a8 := wd_keep ew_2 (wd_ne a8 hr0 (by simp)) a8
  have hr0 : w_2 r = some (.inr (0, [.ref (B 0), .ref (B 1), .ref (B 2), .int (nI (hy_tot Ps)), .ref (B 3), .ref (B 4), .int (nI ml.length), .ref (B 5), .int 0, .ref (B 6), .ref (B 7), .ref (B 8), .int (nI pl.length)])) := wd_here ew_2
  refine lv_iload_n hx hb d_HR_clear_10 rfl (lv_at hl 0 rfl) ?_
  have hcF : hr_c G w_2 r B (F) (nI (hy_tot Ps)) (nI ml.length) (nI ([] : List Int32).length) (nI pl.length) := ⟨hr0, a3, a4, a5, a6, a7, a8⟩
  exact ct_iret S hr rfl hlocks hW (⟨(Ls, Ps, Ts, ml, md, [], pl), tg, ⟨ex_1, rfl⟩, ⟨B, E, _, la, pa, ta, hcF, hg, hs.1, hs.2.1, hs.2.2.1, hs.2.2.2, hml, hmd, li_nil, hpl⟩, ex_rf, hkp⟩) (Nat.le_refl _) (Nat.le_refl _) d_HR_clear_11

set_option maxHeartbeats 4000000 in
set_option maxRecDepth 100000 in
/-- sign -/
theorem c_HR_sign (l : Launch) (G : ev_G) (w : wd_M) (sz : Nat) (tg : Nat → Nat) (r : Nat) (Ls : List hy_L) (Ps : List hy_P) (Ts : List hy_T) (ml md wd : List Int32) (pl : List Nat) (x : Int32) (h : hr_ G w tg r Ls Ps Ts ml md wd pl) (hwf : hy_wf Ls Ps Ts ml md wd pl) : ct_i l y_HR_sign b_HR_sign 2 (some FieldType.int) (rm_ 1 0 0) G w sz [.ref r, .int x] (hq_ G w tg r (sp_sign x (Ls, Ps, Ts, ml, md, wd, pl))) := by
  refine ct_enter (by decide +kernel) (Nat.le_of_ble_eq_true rfl) ?_
  intro p_ e_ s m below meth c_ hsz S hr hlocks hname hE hW ls hl
  have S : CallFix p_ m c_ b_HR_sign 2 s _ lw_good "HyphenRows" := S
  have hx := S.1
  have hb := S.2.1
  have hK := hE.1
  have hl : lv_has ls 2 [(0, .ref r), (1, .int x)] := hl
  obtain ⟨B, E, F, la, pa, ta, hc, hg, hal, hla, hpa, hta, hml, hmd, hwd, hpl⟩ := id h
  have hs : hs_ G w tg B E la pa ta Ls Ps Ts := ⟨hal, hla, hpa, hta⟩
  obtain ⟨hr0, a3, a4, a5, a6, a7, a8⟩ := id hc
  obtain ⟨wL, wP, wT, wm, wml, wwd, wpl, wtot, wmx, wdx, wws, wplx, wlg, wps, wts⟩ := id hwf
  have hB3 : ∀ i, i < 3 → tg (B i) = 2 + i := fun i hi => hg.2 i (by omega)
  have hkp : kp_ w w tg (fun t => 500 ≤ t ∧ t < 600) := kp_rf
  refine lv_iload_n hx hb d_HR_sign_0 rfl (lv_at hl 1 rfl) ?_
  refine ct_goi hW (ct_runS (As := [.int x]) (rest := []) S hE hW (c_HR_isSign l G _ _ x) kc_HR_isSign kz_HR k_HR_69 ks_HR_isSign kd_HR_isSign ⟨Nat.le_of_ble_eq_true rfl, Nat.le_of_ble_eq_true rfl⟩ hl.1 (Nat.le_of_ble_eq_true rfl) d_HR_sign_1 ⟨Nat.le_of_ble_eq_true rfl, Nat.le_of_ble_eq_true rfl⟩) (fun v_3 u_1 H locs hp_2 hW => ?_)
  obtain ⟨hv, hu_4⟩ := hp_2
  rw [hu_4] at hW
  refine lv_if_ne (tgt := 9) hx hb d_HR_sign_4 (by decide) (fun h4 => ?_) (fun h4 => ?_)
  · have hok := ok_s256.mp (bl_t hv h4)
    refine lv_aload_n hx hb d_HR_sign_9 rfl (lv_at hl 0 rfl) ?_
    refine wd_get S i_HR hK hW hr0 rfl 8 (by decide) k_HR_39 rfl rfl d_HR_sign_10 ?_
    refine lv_bipush (v := 30) hx hb d_HR_sign_13 (by decide) ?_
    refine lv_icmp_lt (tgt := 21) hx hb d_HR_sign_15 (by decide) (fun h13 => ?_) (fun h13 => ?_)
    · have hlt : wd.length < 30 := (nI_ltI (a := wd.length) (b := 30) (by omega) (by omega)).mp h13
      refine lv_aload_n hx hb d_HR_sign_21 rfl (lv_at hl 0 rfl) ?_
      refine wd_get S i_HR hK hW hr0 rfl 7 (by decide) k_HR_36 rfl rfl d_HR_sign_22 ?_
      refine lv_aload_n hx hb d_HR_sign_25 rfl (lv_at hl 0 rfl) ?_
      refine wd_get S i_HR hK hW hr0 rfl 8 (by decide) k_HR_39 rfl rfl d_HR_sign_26 ?_
      refine lv_iload_n hx hb d_HR_sign_29 rfl (lv_at hl 1 rfl) ?_
      refine wd_iast S hK hW 0 a5 rfl (vp_in_nI (by omega) (by omega)) d_HR_sign_30 (fun H locs w_5 ew_5 hW => ?_)
      have hs := hs_up hs wL wP hB3 a5 ew_5 (Or.inr (by rw [hg.2 5 (by omega)]; omega))
      have hkp := kp_tr hkp (up_kp ew_5 (by rw [hg.2 5 (by omega)]; show ¬ (_ ∧ _); omega))
      have hr0 := wd_keep ew_5 (wd_ne hr0 a5 (by simp)) hr0
      have a3 := wd_keep ew_5 (wd_ne a3 a5 (by simp)) a3
      have a4 := wd_keep ew_5 (wd_ne a4 a5 (by simp)) a4
      have a6 := wd_keep ew_5 (wd_ne a6 a5 (by simp)) a6
      have a7 := wd_keep ew_5 (wd_ne a7 a5 (by simp)) a7
      have a8 := wd_keep ew_5 (Ne.symm (tg_ne (tg := tg) (by rw [hg.2 5 (by omega), hg.2 8 (by omega)]; omega))) a8
      have a5 : w_5 (B 5) = some (.inl (G.2.1 0, 30, .inl (upd (F 5) ((nI wd.length) : Int32).toNatClampNeg x))) := wd_here ew_5
      rw [nI_clamp (by omega)] at a5
      refine lv_aload_n hx hb d_HR_sign_31 rfl (lv_at hl 0 rfl) ?_
      refine lv_dup hx hb d_HR_sign_32 rfl ?_
      refine wd_get S i_HR hK hW hr0 rfl 8 (by decide) k_HR_39 rfl rfl d_HR_sign_33 ?_
      refine lv_iconst (v := 1) hx hb d_HR_sign_36 (by decide) ?_
      refine lv_iadd hx hb d_HR_sign_37 ?_
      refine lv_topi (fun nl enl => ?_)
      rw [nI_1] at enl
      refine wd_put S i_HR t_HR t_HR_ok n_HR hK hW hr0 rfl 8 (by decide) k_HR_39 rfl rfl rfl rfl (Nat.le_of_ble_eq_true rfl) d_HR_sign_38 (fun H locs w_6 ew_6 hW => ?_)
      have hs := hs_up hs wL wP hB3 hr0 ew_6 (Or.inl hg.1)
      have hkp := kp_tr hkp (up_kp ew_6 (by rw [hg.1]; show ¬ (_ ∧ _); omega))
      have a3 := wd_keep ew_6 (wd_ne a3 hr0 (by simp)) a3
      have a4 := wd_keep ew_6 (wd_ne a4 hr0 (by simp)) a4
      have a5 := wd_keep ew_6 (wd_ne a5 hr0 (by simp)) a5
      have a6 := wd_keep ew_6 (wd_ne a6 hr0 (by simp)) a6
      have a7 := wd_keep ew_6 (wd_ne a7 hr0 (by simp)) a7
      have a8 := wd_keep ew_6 (wd_ne a8 hr0 (by simp)) a8
      have hr0 : w_6 r = some (.inr (0, [.ref (B 0), .ref (B 1), .ref (B 2), .int (nI (hy_tot Ps)), .ref (B 3), .ref (B 4), .int (nI ml.length), .ref (B 5), .int nl, .ref (B 6), .ref (B 7), .ref (B 8), .int (nI pl.length)])) := wd_here ew_6
      refine lv_aload_n hx hb d_HR_sign_41 rfl (lv_at hl 0 rfl) ?_
      refine wd_get S i_HR hK hW hr0 rfl 8 (by decide) k_HR_39 rfl rfl d_HR_sign_42 ?_
      rw [enl] at hr0
      rw [enl]
      have hcF : hr_c G w_6 r B (fun k => if k = 5 then upd (F 5) wd.length x else F k) (nI (hy_tot Ps)) (nI ml.length) (nI (wd ++ [x]).length) (nI pl.length) := by rw [List.length_append]; exact ⟨hr0, a3, a4, a5, a6, a7, a8⟩
      exact ct_iret S hr rfl hlocks hW (⟨(Ls, Ps, Ts, ml, md, wd ++ [x], pl), tg, Or.inr (Or.inr ⟨hok, hlt, rfl, rfl⟩), ⟨B, E, _, la, pa, ta, hcF, hg, hs.1, hs.2.1, hs.2.2.1, hs.2.2.2, hml, hmd, li_put hwd, hpl⟩, ex_rf, hkp⟩) (Nat.le_refl _) (Nat.le_refl _) d_HR_sign_45
    · refine lv_bipush (v := -2) hx hb d_HR_sign_18 (by decide) ?_
      exact ct_iret S hr rfl hlocks hW (⟨_, tg, Or.inr (Or.inl ⟨hok, fun q => h13 (nI_lt (b := 30) q (by omega)), rfl, rfl⟩), h, ex_rf, kp_rf⟩) (Nat.le_refl _) (Nat.le_refl _) d_HR_sign_20
  · refine lv_iconst (v := -1) hx hb d_HR_sign_7 (by decide) ?_
    exact ct_iret S hr rfl hlocks hW (⟨_, tg, Or.inl ⟨fun q => bl_f hv h4 (ok_s256.mpr q), rfl, rfl⟩, h, ex_rf, kp_rf⟩) (Nat.le_refl _) (Nat.le_refl _) d_HR_sign_8

set_option maxHeartbeats 4000000 in
set_option maxRecDepth 100000 in
/-- next -/
theorem c_HR_next (l : Launch) (G : ev_G) (w : wd_M) (sz : Nat) (tg : Nat → Nat) (r : Nat) (Ls : List hy_L) (Ps : List hy_P) (Ts : List hy_T) (ml md wd : List Int32) (pl : List Nat) (x d : Int32) (h : hr_ G w tg r Ls Ps Ts ml md wd pl) (hwf : hy_wf Ls Ps Ts ml md wd pl) : ct_i l y_HR_next b_HR_next 3 (some FieldType.int) (rm_ 1 0 0) G w sz [.ref r, .int x, .int d] (hq_ G w tg r (sp_next x d (Ls, Ps, Ts, ml, md, wd, pl))) := by
  refine ct_enter (by decide +kernel) (Nat.le_of_ble_eq_true rfl) ?_
  intro p_ e_ s m below meth c_ hsz S hr hlocks hname hE hW ls hl
  have S : CallFix p_ m c_ b_HR_next 3 s _ lw_good "HyphenRows" := S
  have hx := S.1
  have hb := S.2.1
  have hK := hE.1
  have hl : lv_has ls 3 [(0, .ref r), (1, .int x), (2, .int d)] := hl
  obtain ⟨B, E, F, la, pa, ta, hc, hg, hal, hla, hpa, hta, hml, hmd, hwd, hpl⟩ := id h
  have hs : hs_ G w tg B E la pa ta Ls Ps Ts := ⟨hal, hla, hpa, hta⟩
  obtain ⟨hr0, a3, a4, a5, a6, a7, a8⟩ := id hc
  obtain ⟨wL, wP, wT, wm, wml, wwd, wpl, wtot, wmx, wdx, wws, wplx, wlg, wps, wts⟩ := id hwf
  have hB3 : ∀ i, i < 3 → tg (B i) = 2 + i := fun i hi => hg.2 i (by omega)
  have hkp : kp_ w w tg (fun t => 500 ≤ t ∧ t < 600) := kp_rf
  refine lv_iload_n hx hb d_HR_next_0 rfl (lv_at hl 1 rfl) ?_
  refine ct_goi hW (ct_runS (As := [.int x]) (rest := []) S hE hW (c_HR_isLetterOrZero l G _ _ x) kc_HR_isLetterOrZero kz_HR k_HR_72 ks_HR_isLetterOrZero kd_HR_isLetterOrZero ⟨Nat.le_of_ble_eq_true rfl, Nat.le_of_ble_eq_true rfl⟩ hl.1 (Nat.le_of_ble_eq_true rfl) d_HR_next_1 ⟨Nat.le_of_ble_eq_true rfl, Nat.le_of_ble_eq_true rfl⟩) (fun v_3 u_1 H locs hp_2 hW => ?_)
  obtain ⟨hv, hu_4⟩ := hp_2
  rw [hu_4] at hW
  refine lv_if_eq (tgt := 14) hx hb d_HR_next_4 (by decide) (fun h4 => ?_) (fun h4 => ?_)
  · refine lv_iconst (v := -1) hx hb d_HR_next_14 (by decide) ?_
    exact ct_iret S hr rfl hlocks hW (⟨_, tg, Or.inl ⟨fun q => bl_f hv h4 q.1, rfl, rfl⟩, h, ex_rf, kp_rf⟩) (Nat.le_refl _) (Nat.le_refl _) d_HR_next_15
  · refine lv_iload_n hx hb d_HR_next_7 rfl (lv_at hl 2 rfl) ?_
    refine ct_goi hW (ct_runS (As := [.int d]) (rest := []) S hE hW (c_HR_isDigit l G _ _ d) kc_HR_isDigit kz_HR k_HR_99 ks_HR_isDigit kd_HR_isDigit ⟨Nat.le_of_ble_eq_true rfl, Nat.le_of_ble_eq_true rfl⟩ hl.1 (Nat.le_of_ble_eq_true rfl) d_HR_next_8 ⟨Nat.le_of_ble_eq_true rfl, Nat.le_of_ble_eq_true rfl⟩) (fun v_7 u_5 H locs hp_6 hW => ?_)
    obtain ⟨hv2, hu_8⟩ := hp_6
    rw [hu_8] at hW
    refine lv_if_ne (tgt := 16) hx hb d_HR_next_11 (by decide) (fun h11 => ?_) (fun h11 => ?_)
    · have hok : ok_l x ∧ ok_d d := ⟨bl_t hv h4, bl_t hv2 h11⟩
      refine lv_aload_n hx hb d_HR_next_16 rfl (lv_at hl 0 rfl) ?_
      refine wd_get S i_HR hK hW hr0 rfl 6 (by decide) k_HR_33 rfl rfl d_HR_next_17 ?_
      refine lv_bipush (v := 12) hx hb d_HR_next_20 (by decide) ?_
      refine lv_icmp_lt (tgt := 28) hx hb d_HR_next_22 (by decide) (fun h22 => ?_) (fun h22 => ?_)
      · have hlt : ml.length < 12 := (nI_ltI (a := ml.length) (b := 12) (by omega) (by omega)).mp h22
        refine lv_aload_n hx hb d_HR_next_28 rfl (lv_at hl 0 rfl) ?_
        refine wd_get S i_HR hK hW hr0 rfl 4 (by decide) k_HR_26 rfl rfl d_HR_next_29 ?_
        refine lv_aload_n hx hb d_HR_next_32 rfl (lv_at hl 0 rfl) ?_
        refine wd_get S i_HR hK hW hr0 rfl 6 (by decide) k_HR_33 rfl rfl d_HR_next_33 ?_
        refine lv_iload_n hx hb d_HR_next_36 rfl (lv_at hl 1 rfl) ?_
        refine wd_iast S hK hW 0 a3 rfl (vp_in_nI (by omega) (by omega)) d_HR_next_37 (fun H locs w_9 ew_9 hW => ?_)
        have hs := hs_up hs wL wP hB3 a3 ew_9 (Or.inr (by rw [hg.2 3 (by omega)]; omega))
        have hkp := kp_tr hkp (up_kp ew_9 (by rw [hg.2 3 (by omega)]; show ¬ (_ ∧ _); omega))
        have hr0 := wd_keep ew_9 (wd_ne hr0 a3 (by simp)) hr0
        have a4 := wd_keep ew_9 (wd_ne a4 a3 (by simp)) a4
        have a5 := wd_keep ew_9 (wd_ne a5 a3 (by simp)) a5
        have a6 := wd_keep ew_9 (wd_ne a6 a3 (by simp)) a6
        have a7 := wd_keep ew_9 (wd_ne a7 a3 (by simp)) a7
        have a8 := wd_keep ew_9 (wd_ne a8 a3 (by simp)) a8
        have a3 : w_9 (B 3) = some (.inl (G.2.1 0, 12, .inl (upd (F 3) ((nI ml.length) : Int32).toNatClampNeg x))) := wd_here ew_9
        rw [nI_clamp (by omega)] at a3
        refine lv_aload_n hx hb d_HR_next_38 rfl (lv_at hl 0 rfl) ?_
        refine wd_get S i_HR hK hW hr0 rfl 5 (by decide) k_HR_30 rfl rfl d_HR_next_39 ?_
        refine lv_aload_n hx hb d_HR_next_42 rfl (lv_at hl 0 rfl) ?_
        refine wd_get S i_HR hK hW hr0 rfl 6 (by decide) k_HR_33 rfl rfl d_HR_next_43 ?_
        refine lv_iload_n hx hb d_HR_next_46 rfl (lv_at hl 2 rfl) ?_
        refine wd_iast S hK hW 0 a4 rfl (vp_in_nI (by omega) (by omega)) d_HR_next_47 (fun H locs w_10 ew_10 hW => ?_)
        have hs := hs_up hs wL wP hB3 a4 ew_10 (Or.inr (by rw [hg.2 4 (by omega)]; omega))
        have hkp := kp_tr hkp (up_kp ew_10 (by rw [hg.2 4 (by omega)]; show ¬ (_ ∧ _); omega))
        have hr0 := wd_keep ew_10 (wd_ne hr0 a4 (by simp)) hr0
        have a3 := wd_keep ew_10 (wd_ne a3 a4 (by simp)) a3
        have a5 := wd_keep ew_10 (wd_ne a5 a4 (by simp)) a5
        have a6 := wd_keep ew_10 (wd_ne a6 a4 (by simp)) a6
        have a7 := wd_keep ew_10 (wd_ne a7 a4 (by simp)) a7
        have a8 := wd_keep ew_10 (wd_ne a8 a4 (by simp)) a8
        have a4 : w_10 (B 4) = some (.inl (G.2.1 0, 13, .inl (upd (F 4) ((nI ml.length) : Int32).toNatClampNeg d))) := wd_here ew_10
        rw [nI_clamp (by omega)] at a4
        refine lv_aload_n hx hb d_HR_next_48 rfl (lv_at hl 0 rfl) ?_
        refine lv_dup hx hb d_HR_next_49 rfl ?_
        refine wd_get S i_HR hK hW hr0 rfl 6 (by decide) k_HR_33 rfl rfl d_HR_next_50 ?_
        refine lv_iconst (v := 1) hx hb d_HR_next_53 (by decide) ?_
        refine lv_iadd hx hb d_HR_next_54 ?_
        refine lv_topi (fun nl enl => ?_)
        rw [nI_1] at enl
        refine wd_put S i_HR t_HR t_HR_ok n_HR hK hW hr0 rfl 6 (by decide) k_HR_33 rfl rfl rfl rfl (Nat.le_of_ble_eq_true rfl) d_HR_next_55 (fun H locs w_11 ew_11 hW => ?_)
        have hs := hs_up hs wL wP hB3 hr0 ew_11 (Or.inl hg.1)
        have hkp := kp_tr hkp (up_kp ew_11 (by rw [hg.1]; show ¬ (_ ∧ _); omega))
        have a3 := wd_keep ew_11 (wd_ne a3 hr0 (by simp)) a3
        have a4 := wd_keep ew_11 (wd_ne a4 hr0 (by simp)) a4
        have a5 := wd_keep ew_11 (wd_ne a5 hr0 (by simp)) a5
        have a6 := wd_keep ew_11 (wd_ne a6 hr0 (by simp)) a6
        have a7 := wd_keep ew_11 (wd_ne a7 hr0 (by simp)) a7
        have a8 := wd_keep ew_11 (wd_ne a8 hr0 (by simp)) a8
        have hr0 : w_11 r = some (.inr (0, [.ref (B 0), .ref (B 1), .ref (B 2), .int (nI (hy_tot Ps)), .ref (B 3), .ref (B 4), .int nl, .ref (B 5), .int (nI wd.length), .ref (B 6), .ref (B 7), .ref (B 8), .int (nI pl.length)])) := wd_here ew_11
        refine lv_aload_n hx hb d_HR_next_58 rfl (lv_at hl 0 rfl) ?_
        refine wd_get S i_HR hK hW hr0 rfl 6 (by decide) k_HR_33 rfl rfl d_HR_next_59 ?_
        rw [enl] at hr0
        rw [enl]
        have hmd2 : li_ (md ++ [d]) (upd (F 4) ml.length d) := by rw [wm]; exact li_put hmd
        have hcF : hr_c G w_11 r B (fun k => if k = 3 then upd (F 3) ml.length x else if k = 4 then upd (F 4) ml.length d else F k) (nI (hy_tot Ps)) (nI (ml ++ [x]).length) (nI wd.length) (nI pl.length) := by rw [List.length_append]; exact ⟨hr0, a3, a4, a5, a6, a7, a8⟩
        exact ct_iret S hr rfl hlocks hW (⟨(Ls, Ps, Ts, ml ++ [x], md ++ [d], wd, pl), tg, Or.inr (Or.inr ⟨hok, hlt, rfl, rfl⟩), ⟨B, E, _, la, pa, ta, hcF, hg, hs.1, hs.2.1, hs.2.2.1, hs.2.2.2, li_put hml, hmd2, hwd, hpl⟩, ex_rf, hkp⟩) (Nat.le_refl _) (Nat.le_refl _) d_HR_next_62
      · refine lv_bipush (v := -2) hx hb d_HR_next_25 (by decide) ?_
        exact ct_iret S hr rfl hlocks hW (⟨_, tg, Or.inr (Or.inl ⟨hok, fun q => h22 (nI_lt (b := 12) q (by omega)), rfl, rfl⟩), h, ex_rf, kp_rf⟩) (Nat.le_refl _) (Nat.le_refl _) d_HR_next_27
    · refine lv_iconst (v := -1) hx hb d_HR_next_14 (by decide) ?_
      exact ct_iret S hr rfl hlocks hW (⟨_, tg, Or.inl ⟨fun q => bl_f hv2 h11 q.2, rfl, rfl⟩, h, ex_rf, kp_rf⟩) (Nat.le_refl _) (Nat.le_refl _) d_HR_next_15

set_option maxHeartbeats 4000000 in
set_option maxRecDepth 100000 in
/-- digit -/
theorem c_HR_digit (l : Launch) (G : ev_G) (w : wd_M) (sz : Nat) (tg : Nat → Nat) (r : Nat) (Ls : List hy_L) (Ps : List hy_P) (Ts : List hy_T) (ml md wd : List Int32) (pl : List Nat) (x y : Int32) (h : hr_ G w tg r Ls Ps Ts ml md wd pl) (hwf : hy_wf Ls Ps Ts ml md wd pl) : ct_i l y_HR_digit b_HR_digit 3 (some FieldType.int) (rm_ 5 0 0) G w sz [.ref r, .int x, .int y] (hq_ G w tg r (sp_digit x y (Ls, Ps, Ts, ml, md, wd, pl))) := by
  refine ct_enter (by decide +kernel) (Nat.le_of_ble_eq_true rfl) ?_
  intro p_ e_ s m below meth c_ hsz S hr hlocks hname hE hW ls hl
  have S : CallFix p_ m c_ b_HR_digit 3 s _ lw_good "HyphenRows" := S
  have hx := S.1
  have hb := S.2.1
  have hK := hE.1
  have hl : lv_has ls 3 [(0, .ref r), (1, .int x), (2, .int y)] := hl
  obtain ⟨B, E, F, la, pa, ta, hc, hg, hal, hla, hpa, hta, hml, hmd, hwd, hpl⟩ := id h
  have hs : hs_ G w tg B E la pa ta Ls Ps Ts := ⟨hal, hla, hpa, hta⟩
  obtain ⟨hr0, a3, a4, a5, a6, a7, a8⟩ := id hc
  obtain ⟨wL, wP, wT, wm, wml, wwd, wpl, wtot, wmx, wdx, wws, wplx, wlg, wps, wts⟩ := id hwf
  have hB3 : ∀ i, i < 3 → tg (B i) = 2 + i := fun i hi => hg.2 i (by omega)
  have hkp : kp_ w w tg (fun t => 500 ≤ t ∧ t < 600) := kp_rf
  obtain ⟨mo0, haL, he0⟩ := id hs.1.1
  refine lv_aload_n hx hb d_HR_digit_0 rfl (lv_at hl 0 rfl) ?_
  refine lv_iload_n hx hb d_HR_digit_1 rfl (lv_at hl 1 rfl) ?_
  refine ct_goi hW (ct_runV (As := [.int x]) (rest := []) (q := (R_HR, F_HR, 13)) S hE hW (c_HR_isLanguage l G _ _ r B E F (nI (hy_tot Ps)) (nI ml.length) (nI wd.length) (nI pl.length) la x hc hal.1) hr0 rfl kc_HR_isLanguage kz_HR k_HR_65 ki_HR_isLanguage kv_HR_isLanguage kd_HR_isLanguage ⟨Nat.le_of_ble_eq_true rfl, Nat.le_of_ble_eq_true rfl⟩ hl.1 (Nat.le_of_ble_eq_true rfl) d_HR_digit_2 ⟨Nat.le_of_ble_eq_true rfl, Nat.le_of_ble_eq_true rfl⟩) (fun v_3 u_1 H locs hp_2 hW => ?_)
  obtain ⟨hv, hu_4⟩ := hp_2
  rw [hu_4] at hW
  rw [hla.1] at hv
  refine lv_if_eq (tgt := 20) hx hb d_HR_digit_5 (by decide) (fun h5 => ?_) (fun h5 => ?_)
  · refine lv_iconst (v := -1) hx hb d_HR_digit_20 (by decide) ?_
    exact ct_iret S hr rfl hlocks hW (⟨_, tg, ⟨rfl, Or.inl ⟨fun q => bl_f hv h5 q.1, rfl⟩⟩, h, ex_rf, kp_rf⟩) (Nat.le_refl _) (Nat.le_refl _) d_HR_digit_21
  · refine lv_iload_n hx hb d_HR_digit_8 rfl (lv_at hl 2 rfl) ?_
    refine lv_if_lt (tgt := 20) hx hb d_HR_digit_9 (by decide) (fun h9 => ?_) (fun h9 => ?_)
    · refine lv_iconst (v := -1) hx hb d_HR_digit_20 (by decide) ?_
      exact ct_iret S hr rfl hlocks hW (⟨_, tg, ⟨rfl, Or.inl ⟨fun q => q.2.1 h9, rfl⟩⟩, h, ex_rf, kp_rf⟩) (Nat.le_refl _) (Nat.le_refl _) d_HR_digit_21
    · refine lv_iload_n hx hb d_HR_digit_12 rfl (lv_at hl 2 rfl) ?_
      refine lv_aload_n hx hb d_HR_digit_13 rfl (lv_at hl 0 rfl) ?_
      refine wd_get S i_HR hK hW hr0 rfl 8 (by decide) k_HR_39 rfl rfl d_HR_digit_14 ?_
      refine lv_icmp_le (tgt := 22) hx hb d_HR_digit_17 (by decide) (fun h17 => ?_) (fun h17 => ?_)
      · have hnm0 := bl_t hv h5
        have hnm : nm_ x la.length := by rw [hla.1]; exact hnm0
        obtain ⟨k, hk, rfl⟩ : ∃ k : Nat, k ≤ wd.length ∧ y = nI k := nI_of2 (nI_toInt (by omega)) h9 h17
        obtain ⟨i, hil, rfl⟩ := nm_of hnm (by rw [hla.1]; omega)
        have hil2 : i < Ls.length := by rw [← hla.1]; exact hil
        have hlgi : Ls[i]? = some Ls[i] := List.getElem?_eq_getElem hil2
        generalize Ls[i] = lg at hlgi
        obtain ⟨a, b, z, e1, hla1, tga, tgb, tgz⟩ := hs.2.1.2 i lg hlgi
        have hlgm := wlg lg (List.mem_of_getElem? hlgi)
        obtain ⟨mo0, haL, he0⟩ := id hs.1.1
        refine lv_aload_n hx hb d_HR_digit_22 rfl (lv_at hl 0 rfl) ?_
        refine lv_aload_n hx hb d_HR_digit_23 rfl (lv_at hl 0 rfl) ?_
        refine wd_get S i_HR hK hW hr0 rfl 0 (by decide) k_HR_10 rfl rfl d_HR_digit_24 ?_
        refine lv_iload_n hx hb d_HR_digit_27 rfl (lv_at hl 1 rfl) ?_
        refine ct_goq hW (ct_runV (As := [.int (nI i)]) (rest := [.ref r]) (q := (R_AL, F_AL, 3)) S hE hW (c_AL_get l G _ _ (B 0) (E 0) la i hs.1.1 hil) haL rfl kc_AL_get kz_AL k_HR_75 ki_AL_get kv_AL_get kd_AL_get ⟨Nat.le_of_ble_eq_true rfl, Nat.le_of_ble_eq_true rfl⟩ hl.1 (Nat.le_of_ble_eq_true rfl) d_HR_digit_28 ⟨Nat.le_of_ble_eq_true rfl, Nat.le_of_ble_eq_true rfl⟩) (fun v_7 u_5 H locs hp_6 hW => ?_)
        obtain ⟨hvg, hu_8⟩ := hp_6
        rw [hu_8] at hW
        rw [hvg, e1]
        refine W.eq (g2 := F0 m 31 ls [.ref a, .ref r]) rfl ?_
        refine wd_cast S (T := F_La) (N := 5) k_HR_58 hK hW hla1.1 rfl d_HR_digit_31 ?_
        obtain ⟨q1, q2, q3⟩ := id hla1
        refine ct_goi hW (ct_runV (As := [.ref a]) (rest := []) (q := (R_HR, F_HR, 13)) S hE hW (c_HR_spellWord l G _ _ r B F (nI (hy_tot Ps)) (nI ml.length) (nI pl.length) a b z lg wd hc hla1 hwd wwd wws) hr0 rfl kc_HR_spellWord kz_HR k_HR_123 ki_HR_spellWord kv_HR_spellWord kd_HR_spellWord ⟨Nat.le_of_ble_eq_true rfl, Nat.le_of_ble_eq_true rfl⟩ hl.1 (Nat.le_of_ble_eq_true rfl) d_HR_digit_34 ⟨Nat.le_of_ble_eq_true rfl, Nat.le_of_ble_eq_true rfl⟩) (fun v_11 u_9 H locs hp_10 hW => ?_)
        obtain ⟨hv6, g6, eu, hrow⟩ := hp_10
        have hs := hs_up hs wL wP hB3 a6 eu (Or.inr (by rw [hg.2 6 (by omega)]; omega))
        have hkp := kp_tr hkp (up_kp eu (by rw [hg.2 6 (by omega)]; show ¬ (_ ∧ _); omega))
        have hc1 := hc_6 hc eu
        refine lv_if_ne (tgt := 42) hx hb d_HR_digit_37 (by decide) (fun h37 => ?_) (fun h37 => ?_)
        · have hsp := bl_t hv6 h37
          have hll : (hy_let lg wd).length = wd.length := List.length_map _
          have hcl : hr_c G u_9 r B (fun k => if k = 6 then g6 else F k) (nI (hy_tot Ps)) (nI ml.length) (nI (hy_let lg wd).length) (nI pl.length) := by rw [hll]; exact hc1
          have hr1 := hc1.1
          refine lv_aload_n hx hb d_HR_digit_42 rfl (lv_at hl 0 rfl) ?_
          refine lv_iload_n hx hb d_HR_digit_43 rfl (lv_at hl 1 rfl) ?_
          refine ct_gov hW (ct_runV (As := [.int (nI i)]) (rest := []) (q := (R_HR, F_HR, 13)) S hE hW (c_HR_findRowDigits l G _ _ r i B E (fun k => if k = 6 then g6 else F k) (nI (hy_tot Ps)) (nI ml.length) (nI pl.length) tg pa ta Ps Ts (hy_let lg wd) hcl hg hs.1.2.1 hs.2.2.1 wps wP (hrow hsp) (by omega) (by omega) hs.1.2.2.1 hs.2.2.2 wts wT) hr1 rfl kc_HR_findRowDigits kz_HR k_HR_151 ki_HR_findRowDigits kv_HR_findRowDigits kd_HR_findRowDigits ⟨Nat.le_of_ble_eq_true rfl, Nat.le_of_ble_eq_true rfl⟩ hl.1 (Nat.le_of_ble_eq_true rfl) d_HR_digit_44 ⟨Nat.le_of_ble_eq_true rfl, Nat.le_of_ble_eq_true rfl⟩) (fun u_12 H locs hp_13 hW => ?_)
          obtain ⟨g7, eu2, hdig⟩ := hp_13
          have hs := hs_up hs wL wP hB3 hc1.2.2.2.2.2.1 eu2 (Or.inr (by rw [hg.2 7 (by omega)]; omega))
          have hkp := kp_tr hkp (up_kp eu2 (by rw [hg.2 7 (by omega)]; show ¬ (_ ∧ _); omega))
          have hc2 := hc_7 hc1 eu2
          obtain ⟨hr0, a3, a4, a5, a6, a7, a8⟩ := id hc2
          refine lv_aload_n hx hb d_HR_digit_47 rfl (lv_at hl 0 rfl) ?_
          refine wd_get S i_HR hK hW hr0 rfl 10 (by decide) k_HR_45 rfl rfl d_HR_digit_48 ?_
          refine lv_iload_n hx hb d_HR_digit_51 rfl (lv_at hl 2 rfl) ?_
          refine lv_iconst (v := 1) hx hb d_HR_digit_52 (by decide) ?_
          refine lv_iadd hx hb d_HR_digit_53 ?_
          rw [nI_1]
          refine wd_iald S hK hW 0 a7 rfl (vp_in_nI (by omega) (by omega)) d_HR_digit_54 ?_
          rw [nI_clamp (by omega)]
          exact ct_iret S hr rfl hlocks hW (⟨_, tg, ⟨rfl, Or.inr ⟨⟨hnm0, nI_pos (n := k) (by omega), nI_nlt (a := wd.length) (b := k) hk (by omega)⟩, i, k, lg, rfl, rfl, hk, hlgi, Or.inr ⟨hsp, hdig k (by rw [hll]; exact hk)⟩⟩⟩, ⟨B, E, _, la, pa, ta, hc2, hg, hs.1, hs.2.1, hs.2.2.1, hs.2.2.2, hml, hmd, hwd, hpl⟩, ex_rf, hkp⟩) (Nat.le_refl _) (Nat.le_refl _) d_HR_digit_55
        · refine lv_iconst (v := 0) hx hb d_HR_digit_40 (by decide) ?_
          exact ct_iret S hr rfl hlocks hW (⟨_, tg, ⟨rfl, Or.inr ⟨⟨hnm0, nI_pos (n := k) (by omega), nI_nlt (a := wd.length) (b := k) hk (by omega)⟩, i, k, lg, rfl, rfl, hk, hlgi, Or.inl ⟨bl_f hv6 h37, rfl⟩⟩⟩, ⟨B, E, _, la, pa, ta, hc1, hg, hs.1, hs.2.1, hs.2.2.1, hs.2.2.2, hml, hmd, hwd, hpl⟩, ex_rf, hkp⟩) (Nat.le_refl _) (Nat.le_refl _) d_HR_digit_41
      · refine lv_iconst (v := -1) hx hb d_HR_digit_20 (by decide) ?_
        exact ct_iret S hr rfl hlocks hW (⟨_, tg, ⟨rfl, Or.inl ⟨fun q => q.2.2 (Int32.not_le.mp h17), rfl⟩⟩, h, ex_rf, kp_rf⟩) (Nat.le_refl _) (Nat.le_refl _) d_HR_digit_21

set_option maxHeartbeats 4000000 in
set_option maxRecDepth 100000 in
/-- code -/
theorem c_HR_code (l : Launch) (G : ev_G) (w : wd_M) (sz : Nat) (tg : Nat → Nat) (r : Nat) (Ls : List hy_L) (Ps : List hy_P) (Ts : List hy_T) (ml md wd : List Int32) (pl : List Nat) (x g c k : Int32) (h : hr_ G w tg r Ls Ps Ts ml md wd pl) (hwf : hy_wf Ls Ps Ts ml md wd pl) (hk01 : k = 0 ∨ k = 1) : ct_i l y_HR_code b_HR_code 6 (some FieldType.int) (rm_ 3 0 0) G w sz [.ref r, .int x, .int g, .int c, .int k] (hq_ G w tg r (sp_code x g c k (Ls, Ps, Ts, ml, md, wd, pl))) := by
  refine ct_enter (by decide +kernel) (Nat.le_of_ble_eq_true rfl) ?_
  intro p_ e_ s m below meth c_ hsz S hr hlocks hname hE hW ls hl
  have S : CallFix p_ m c_ b_HR_code 6 s _ lw_good "HyphenRows" := S
  have hx := S.1
  have hb := S.2.1
  have hK := hE.1
  have hl : lv_has ls 6 [(0, .ref r), (1, .int x), (2, .int g), (3, .int c), (4, .int k)] := hl
  obtain ⟨B, E, F, la, pa, ta, hc, hg, hal, hla, hpa, hta, hml, hmd, hwd, hpl⟩ := id h
  have hs : hs_ G w tg B E la pa ta Ls Ps Ts := ⟨hal, hla, hpa, hta⟩
  obtain ⟨hr0, a3, a4, a5, a6, a7, a8⟩ := id hc
  obtain ⟨wL, wP, wT, wm, wml, wwd, wpl, wtot, wmx, wdx, wws, wplx, wlg, wps, wts⟩ := id hwf
  have hB3 : ∀ i, i < 3 → tg (B i) = 2 + i := fun i hi => hg.2 i (by omega)
  have hkp : kp_ w w tg (fun t => 500 ≤ t ∧ t < 600) := kp_rf
  obtain ⟨mo0, haL, he0⟩ := id hs.1.1
  refine lv_aload_n hx hb d_HR_code_0 rfl (lv_at hl 0 rfl) ?_
  refine lv_iload_n hx hb d_HR_code_1 rfl (lv_at hl 1 rfl) ?_
  refine ct_goi hW (ct_runV (As := [.int x]) (rest := []) (q := (R_HR, F_HR, 13)) S hE hW (c_HR_isLanguage l G _ _ r B E F (nI (hy_tot Ps)) (nI ml.length) (nI wd.length) (nI pl.length) la x hc hal.1) hr0 rfl kc_HR_isLanguage kz_HR k_HR_65 ki_HR_isLanguage kv_HR_isLanguage kd_HR_isLanguage ⟨Nat.le_of_ble_eq_true rfl, Nat.le_of_ble_eq_true rfl⟩ hl.1 (Nat.le_of_ble_eq_true rfl) d_HR_code_2 ⟨Nat.le_of_ble_eq_true rfl, Nat.le_of_ble_eq_true rfl⟩) (fun v_3 u_1 H locs hp_2 hW => ?_)
  obtain ⟨hv, hu_4⟩ := hp_2
  rw [hu_4] at hW
  rw [hla.1] at hv
  refine lv_if_eq (tgt := 22) hx hb d_HR_code_5 (by decide) (fun hb0 => ?_) (fun hb0 => ?_)
  · refine lv_iconst (v := -1) hx hb d_HR_code_22 (by decide) ?_
    exact ct_iret S hr rfl hlocks hW (⟨_, tg, Or.inl ⟨fun q => bl_f hv hb0 q.1, rfl, rfl⟩, h, ex_rf, kp_rf⟩) (Nat.le_refl _) (Nat.le_refl _) d_HR_code_23
  · refine lv_iload_n hx hb d_HR_code_8 rfl (lv_at hl 2 rfl) ?_
    refine ct_goi hW (ct_runS (As := [.int g]) (rest := []) S hE hW (c_HR_isSign l G _ _ g) kc_HR_isSign kz_HR k_HR_69 ks_HR_isSign kd_HR_isSign ⟨Nat.le_of_ble_eq_true rfl, Nat.le_of_ble_eq_true rfl⟩ hl.1 (Nat.le_of_ble_eq_true rfl) d_HR_code_9 ⟨Nat.le_of_ble_eq_true rfl, Nat.le_of_ble_eq_true rfl⟩) (fun v_7 u_5 H locs hp_6 hW => ?_)
    obtain ⟨hv1, hu_8⟩ := hp_6
    rw [hu_8] at hW
    refine lv_if_eq (tgt := 22) hx hb d_HR_code_12 (by decide) (fun hb1 => ?_) (fun hb1 => ?_)
    · refine lv_iconst (v := -1) hx hb d_HR_code_22 (by decide) ?_
      exact ct_iret S hr rfl hlocks hW (⟨_, tg, Or.inl ⟨fun q => bl_f hv1 hb1 (ok_s256.mpr q.2.1), rfl, rfl⟩, h, ex_rf, kp_rf⟩) (Nat.le_refl _) (Nat.le_refl _) d_HR_code_23
    · refine lv_iload_n hx hb d_HR_code_15 rfl (lv_at hl 3 rfl) ?_
      refine ct_goi hW (ct_runS (As := [.int c]) (rest := []) S hE hW (c_HR_isLetterOrZero l G _ _ c) kc_HR_isLetterOrZero kz_HR k_HR_72 ks_HR_isLetterOrZero kd_HR_isLetterOrZero ⟨Nat.le_of_ble_eq_true rfl, Nat.le_of_ble_eq_true rfl⟩ hl.1 (Nat.le_of_ble_eq_true rfl) d_HR_code_16 ⟨Nat.le_of_ble_eq_true rfl, Nat.le_of_ble_eq_true rfl⟩) (fun v_11 u_9 H locs hp_10 hW => ?_)
      obtain ⟨hv2, hu_12⟩ := hp_10
      rw [hu_12] at hW
      refine lv_if_ne (tgt := 24) hx hb d_HR_code_19 (by decide) (fun hb2 => ?_) (fun hb2 => ?_)
      · have hnm0 := bl_t hv hb0
        have hnm : nm_ x la.length := by rw [hla.1]; exact hnm0
        have hok : nm_ x Ls.length ∧ ok_s g ∧ ok_l c := ⟨hnm0, ok_s256.mp (bl_t hv1 hb1), bl_t hv2 hb2⟩
        obtain ⟨gn, hgn, rfl⟩ := ok_nat (n := 255) hok.2.1 (by decide)
        obtain ⟨i, hil, rfl⟩ := nm_of hnm (by rw [hla.1]; omega)
        have hil2 : i < Ls.length := by rw [← hla.1]; exact hil
        have hlgi : Ls[i]? = some Ls[i] := List.getElem?_eq_getElem hil2
        generalize Ls[i] = lg at hlgi
        obtain ⟨a, b, z, e1, hla1, tga, tgb, tgz⟩ := hs.2.1.2 i lg hlgi
        have hlgm := wlg lg (List.mem_of_getElem? hlgi)
        obtain ⟨mo0, haL, he0⟩ := id hs.1.1
        refine lv_aload_n hx hb d_HR_code_24 rfl (lv_at hl 0 rfl) ?_
        refine wd_get S i_HR hK hW hr0 rfl 0 (by decide) k_HR_10 rfl rfl d_HR_code_25 ?_
        refine lv_iload_n hx hb d_HR_code_28 rfl (lv_at hl 1 rfl) ?_
        refine ct_goq hW (ct_runV (As := [.int (nI i)]) (rest := []) (q := (R_AL, F_AL, 3)) S hE hW (c_AL_get l G _ _ (B 0) (E 0) la i hs.1.1 hil) haL rfl kc_AL_get kz_AL k_HR_75 ki_AL_get kv_AL_get kd_AL_get ⟨Nat.le_of_ble_eq_true rfl, Nat.le_of_ble_eq_true rfl⟩ hl.1 (Nat.le_of_ble_eq_true rfl) d_HR_code_29 ⟨Nat.le_of_ble_eq_true rfl, Nat.le_of_ble_eq_true rfl⟩) (fun v_15 u_13 H locs hp_14 hW => ?_)
        obtain ⟨hvg, hu_16⟩ := hp_14
        rw [hu_16] at hW
        rw [hvg, e1]
        refine W.eq (g2 := F0 m 32 ls [.ref a]) rfl ?_
        refine wd_cast S (T := F_La) (N := 5) k_HR_58 hK hW hla1.1 rfl d_HR_code_32 ?_
        obtain ⟨q1, q2, q3⟩ := id hla1
        refine lv_astore (lv' := [(5, .ref a), (0, .ref r), (1, .int (nI i)), (2, .int (nI gn)), (3, .int c), (4, .int k)]) hx hb d_HR_code_35 hl (by decide) rfl (fun ls hl => ?_)
        refine lv_aload hx hb d_HR_code_37 (lv_at hl 0 rfl) ?_
        refine wd_get S i_La hK hW q1 rfl 0 (by decide) k_HR_79 rfl rfl d_HR_code_39 ?_
        refine lv_iload_n hx hb d_HR_code_42 rfl (lv_at hl 3 rfl) ?_
        refine lv_iload_n hx hb d_HR_code_43 rfl (lv_at hl 4 rfl) ?_
        refine wd_iast S hK hW 0 q2 rfl (vp_in_nI (by omega) (by omega)) d_HR_code_44 (fun H locs w_17 ew_17 hW => ?_)
        have q1 := wd_keep ew_17 (wd_ne q1 q2 (by simp)) q1
        have q3 := wd_keep ew_17 (tg_ne (tg := tg) (by rw [tgb, tgz]; omega)) q3
        have q2 : w_17 b = some (.inl (G.2.1 0, 256, .inl (upd lg.1 ((nI gn) : Int32).toNatClampNeg c))) := wd_here ew_17
        rw [nI_clamp (by omega)] at q2
        refine lv_aload hx hb d_HR_code_45 (lv_at hl 0 rfl) ?_
        refine wd_get S i_La hK hW q1 rfl 1 (by decide) k_HR_82 rfl rfl d_HR_code_47 ?_
        refine lv_iload_n hx hb d_HR_code_50 rfl (lv_at hl 3 rfl) ?_
        refine lv_iload hx hb d_HR_code_51 (lv_at hl 5 rfl) ?_
        refine wd_zast S hK hW 1 q3 rfl (vp_in_nI (by omega) (by omega)) d_HR_code_53 (fun H locs w_18 ew_18 hW => ?_)
        have q1 := wd_keep ew_18 (wd_ne q1 q3 (by simp)) q1
        have q2 := wd_keep ew_18 (Ne.symm (tg_ne (tg := tg) (by rw [tgb, tgz]; omega))) q2
        have q3 : w_18 z = some (.inl (G.2.1 1, 256, .inl (upd lg.2.1 ((nI gn) : Int32).toNatClampNeg (vp_nar .boolean k)))) := wd_here ew_18
        rw [nI_clamp (by omega), vpn01 hk01] at q3
        refine lv_iconst (v := 1) hx hb d_HR_code_54 (by decide) ?_
        have hk : ∀ y, w y ≠ none → ¬ (1000 + 3 * i ≤ tg y ∧ tg y ≤ 1002 + 3 * i) → w_18 y = w y := fun y _ hq => by rw [ew_18, va_up_ne _ _ (tg_ne (tg := tg) (by omega)), ew_17, va_up_ne _ _ (tg_ne (tg := tg) (by omega))]
        have hd : ∀ y, w_18 y = none ↔ w y = none := fun y => by rw [ew_18, ew_17]; exact up_dom2 hla1.2.1 hla1.2.2
        have hla2 := la_upd (lg2 := (upd lg.1 gn c, upd lg.2.1 gn k, lg.2.2)) hla e1 tga tgb tgz hk ⟨q1, q2, q3⟩
        have hs2 := hs_la hs wP hB3 (fun y hy hq => hk y hy (by omega)) hd hla2
        have hcF := hc_kp hc hg (fun y hy hq => hk y hy (by omega))
        exact ct_iret S hr rfl hlocks hW (⟨_, tg, Or.inr ⟨hok, rfl, i, gn, lg, rfl, rfl, by omega, hlgi, rfl⟩, ⟨B, E, _, la, pa, ta, hcF, hg, hs2.1, hs2.2.1, hs2.2.2.1, hs2.2.2.2, hml, hmd, hwd, hpl⟩, ex_rf, fun y hy hq => hk y hy (by have hq : 500 ≤ tg y ∧ tg y < 600 := hq; omega)⟩) (Nat.le_refl _) (Nat.le_refl _) d_HR_code_55
      · refine lv_iconst (v := -1) hx hb d_HR_code_22 (by decide) ?_
        exact ct_iret S hr rfl hlocks hW (⟨_, tg, Or.inl ⟨fun q => bl_f hv2 hb2 q.2.2, rfl, rfl⟩, h, ex_rf, kp_rf⟩) (Nat.le_refl _) (Nat.le_refl _) d_HR_code_23

set_option maxHeartbeats 4000000 in
set_option maxRecDepth 100000 in
/-- ends -/
theorem c_HR_ends (l : Launch) (G : ev_G) (w : wd_M) (sz : Nat) (tg : Nat → Nat) (r : Nat) (Ls : List hy_L) (Ps : List hy_P) (Ts : List hy_T) (ml md wd : List Int32) (pl : List Nat) (x a0 b0 k : Int32) (h : hr_ G w tg r Ls Ps Ts ml md wd pl) (hwf : hy_wf Ls Ps Ts ml md wd pl) (hk01 : k = 0 ∨ k = 1) : ct_i l y_HR_ends b_HR_ends 6 (some FieldType.int) (rm_ 3 0 0) G w sz [.ref r, .int x, .int a0, .int b0, .int k] (hq_ G w tg r (sp_ends x a0 b0 k (Ls, Ps, Ts, ml, md, wd, pl))) := by
  refine ct_enter (by decide +kernel) (Nat.le_of_ble_eq_true rfl) ?_
  intro p_ e_ s m below meth c_ hsz S hr hlocks hname hE hW ls hl
  have S : CallFix p_ m c_ b_HR_ends 6 s _ lw_good "HyphenRows" := S
  have hx := S.1
  have hb := S.2.1
  have hK := hE.1
  have hl : lv_has ls 6 [(0, .ref r), (1, .int x), (2, .int a0), (3, .int b0), (4, .int k)] := hl
  obtain ⟨B, E, F, la, pa, ta, hc, hg, hal, hla, hpa, hta, hml, hmd, hwd, hpl⟩ := id h
  have hs : hs_ G w tg B E la pa ta Ls Ps Ts := ⟨hal, hla, hpa, hta⟩
  obtain ⟨hr0, a3, a4, a5, a6, a7, a8⟩ := id hc
  obtain ⟨wL, wP, wT, wm, wml, wwd, wpl, wtot, wmx, wdx, wws, wplx, wlg, wps, wts⟩ := id hwf
  have hB3 : ∀ i, i < 3 → tg (B i) = 2 + i := fun i hi => hg.2 i (by omega)
  have hkp : kp_ w w tg (fun t => 500 ≤ t ∧ t < 600) := kp_rf
  obtain ⟨mo0, haL, he0⟩ := id hs.1.1
  refine lv_aload_n hx hb d_HR_ends_0 rfl (lv_at hl 0 rfl) ?_
  refine lv_iload_n hx hb d_HR_ends_1 rfl (lv_at hl 1 rfl) ?_
  refine ct_goi hW (ct_runV (As := [.int x]) (rest := []) (q := (R_HR, F_HR, 13)) S hE hW (c_HR_isLanguage l G _ _ r B E F (nI (hy_tot Ps)) (nI ml.length) (nI wd.length) (nI pl.length) la x hc hal.1) hr0 rfl kc_HR_isLanguage kz_HR k_HR_65 ki_HR_isLanguage kv_HR_isLanguage kd_HR_isLanguage ⟨Nat.le_of_ble_eq_true rfl, Nat.le_of_ble_eq_true rfl⟩ hl.1 (Nat.le_of_ble_eq_true rfl) d_HR_ends_2 ⟨Nat.le_of_ble_eq_true rfl, Nat.le_of_ble_eq_true rfl⟩) (fun v_3 u_1 H locs hp_2 hW => ?_)
  obtain ⟨hv, hu_4⟩ := hp_2
  rw [hu_4] at hW
  rw [hla.1] at hv
  refine lv_if_eq (tgt := 22) hx hb d_HR_ends_5 (by decide) (fun hb0 => ?_) (fun hb0 => ?_)
  · refine lv_iconst (v := -1) hx hb d_HR_ends_22 (by decide) ?_
    exact ct_iret S hr rfl hlocks hW (⟨_, tg, Or.inl ⟨fun q => bl_f hv hb0 q.1, rfl, rfl⟩, h, ex_rf, kp_rf⟩) (Nat.le_refl _) (Nat.le_refl _) d_HR_ends_23
  · refine lv_iload_n hx hb d_HR_ends_8 rfl (lv_at hl 2 rfl) ?_
    refine ct_goi hW (ct_runS (As := [.int a0]) (rest := []) S hE hW (c_HR_isLeast l G _ _ a0) kc_HR_isLeast kz_HR k_HR_86 ks_HR_isLeast kd_HR_isLeast ⟨Nat.le_of_ble_eq_true rfl, Nat.le_of_ble_eq_true rfl⟩ hl.1 (Nat.le_of_ble_eq_true rfl) d_HR_ends_9 ⟨Nat.le_of_ble_eq_true rfl, Nat.le_of_ble_eq_true rfl⟩) (fun v_7 u_5 H locs hp_6 hW => ?_)
    obtain ⟨hv1, hu_8⟩ := hp_6
    rw [hu_8] at hW
    refine lv_if_eq (tgt := 22) hx hb d_HR_ends_12 (by decide) (fun hb1 => ?_) (fun hb1 => ?_)
    · refine lv_iconst (v := -1) hx hb d_HR_ends_22 (by decide) ?_
      exact ct_iret S hr rfl hlocks hW (⟨_, tg, Or.inl ⟨fun q => bl_f hv1 hb1 q.2.1, rfl, rfl⟩, h, ex_rf, kp_rf⟩) (Nat.le_refl _) (Nat.le_refl _) d_HR_ends_23
    · refine lv_iload_n hx hb d_HR_ends_15 rfl (lv_at hl 3 rfl) ?_
      refine ct_goi hW (ct_runS (As := [.int b0]) (rest := []) S hE hW (c_HR_isLeast l G _ _ b0) kc_HR_isLeast kz_HR k_HR_86 ks_HR_isLeast kd_HR_isLeast ⟨Nat.le_of_ble_eq_true rfl, Nat.le_of_ble_eq_true rfl⟩ hl.1 (Nat.le_of_ble_eq_true rfl) d_HR_ends_16 ⟨Nat.le_of_ble_eq_true rfl, Nat.le_of_ble_eq_true rfl⟩) (fun v_11 u_9 H locs hp_10 hW => ?_)
      obtain ⟨hv2, hu_12⟩ := hp_10
      rw [hu_12] at hW
      refine lv_if_ne (tgt := 24) hx hb d_HR_ends_19 (by decide) (fun hb2 => ?_) (fun hb2 => ?_)
      · have hnm0 := bl_t hv hb0
        have hnm : nm_ x la.length := by rw [hla.1]; exact hnm0
        have hok : nm_ x Ls.length ∧ ok_e a0 ∧ ok_e b0 := ⟨hnm0, bl_t hv1 hb1, bl_t hv2 hb2⟩
        obtain ⟨an, han, rfl⟩ := ok_nat (n := 20) hok.2.1 (by decide)
        obtain ⟨bn, hbn, rfl⟩ := ok_nat (n := 20) hok.2.2 (by decide)
        obtain ⟨i, hil, rfl⟩ := nm_of hnm (by rw [hla.1]; omega)
        have hil2 : i < Ls.length := by rw [← hla.1]; exact hil
        have hlgi : Ls[i]? = some Ls[i] := List.getElem?_eq_getElem hil2
        generalize Ls[i] = lg at hlgi
        obtain ⟨a, b, z, e1, hla1, tga, tgb, tgz⟩ := hs.2.1.2 i lg hlgi
        have hlgm := wlg lg (List.mem_of_getElem? hlgi)
        obtain ⟨mo0, haL, he0⟩ := id hs.1.1
        refine lv_aload_n hx hb d_HR_ends_24 rfl (lv_at hl 0 rfl) ?_
        refine wd_get S i_HR hK hW hr0 rfl 0 (by decide) k_HR_10 rfl rfl d_HR_ends_25 ?_
        refine lv_iload_n hx hb d_HR_ends_28 rfl (lv_at hl 1 rfl) ?_
        refine ct_goq hW (ct_runV (As := [.int (nI i)]) (rest := []) (q := (R_AL, F_AL, 3)) S hE hW (c_AL_get l G _ _ (B 0) (E 0) la i hs.1.1 hil) haL rfl kc_AL_get kz_AL k_HR_75 ki_AL_get kv_AL_get kd_AL_get ⟨Nat.le_of_ble_eq_true rfl, Nat.le_of_ble_eq_true rfl⟩ hl.1 (Nat.le_of_ble_eq_true rfl) d_HR_ends_29 ⟨Nat.le_of_ble_eq_true rfl, Nat.le_of_ble_eq_true rfl⟩) (fun v_15 u_13 H locs hp_14 hW => ?_)
        obtain ⟨hvg, hu_16⟩ := hp_14
        rw [hu_16] at hW
        rw [hvg, e1]
        refine W.eq (g2 := F0 m 32 ls [.ref a]) rfl ?_
        refine wd_cast S (T := F_La) (N := 5) k_HR_58 hK hW hla1.1 rfl d_HR_ends_32 ?_
        obtain ⟨q1, q2, q3⟩ := id hla1
        refine lv_astore (lv' := [(5, .ref a), (0, .ref r), (1, .int (nI i)), (2, .int (nI an)), (3, .int (nI bn)), (4, .int k)]) hx hb d_HR_ends_35 hl (by decide) rfl (fun ls hl => ?_)
        refine lv_aload hx hb d_HR_ends_37 (lv_at hl 0 rfl) ?_
        refine lv_iload_n hx hb d_HR_ends_39 rfl (lv_at hl 3 rfl) ?_
        refine wd_put S i_La t_La t_La_ok n_La hK hW q1 rfl 2 (by decide) k_HR_89 rfl rfl rfl rfl (Nat.le_of_ble_eq_true rfl) d_HR_ends_40 (fun H locs w_17 ew_17 hW => ?_)
        have q1 : w_17 a = some (.inr (1, [.ref b, .ref z, .int (nI an), .int (nI lg.2.2.2.1), .int lg.2.2.2.2])) := wd_here ew_17
        refine lv_aload hx hb d_HR_ends_43 (lv_at hl 0 rfl) ?_
        refine lv_iload_n hx hb d_HR_ends_45 rfl (lv_at hl 4 rfl) ?_
        refine wd_put S i_La t_La t_La_ok n_La hK hW q1 rfl 3 (by decide) k_HR_92 rfl rfl rfl rfl (Nat.le_of_ble_eq_true rfl) d_HR_ends_46 (fun H locs w_18 ew_18 hW => ?_)
        have q1 : w_18 a = some (.inr (1, [.ref b, .ref z, .int (nI an), .int (nI bn), .int lg.2.2.2.2])) := wd_here ew_18
        refine lv_aload hx hb d_HR_ends_49 (lv_at hl 0 rfl) ?_
        refine lv_iload hx hb d_HR_ends_51 (lv_at hl 5 rfl) ?_
        refine wd_put S i_La t_La t_La_ok n_La hK hW q1 rfl 4 (by decide) k_HR_95 rfl rfl (nar01 hk01) (fit01 hk01) (Nat.le_of_ble_eq_true rfl) d_HR_ends_53 (fun H locs w_19 ew_19 hW => ?_)
        have q1 : w_19 a = some (.inr (1, [.ref b, .ref z, .int (nI an), .int (nI bn), .int k])) := wd_here ew_19
        refine lv_iconst (v := 1) hx hb d_HR_ends_56 (by decide) ?_
        have hk : ∀ y, w y ≠ none → ¬ (1000 + 3 * i ≤ tg y ∧ tg y ≤ 1002 + 3 * i) → w_19 y = w y := fun y _ hq => by rw [ew_19, va_up_ne _ _ (tg_ne (tg := tg) (by omega)), ew_18, va_up_ne _ _ (tg_ne (tg := tg) (by omega)), ew_17, va_up_ne _ _ (tg_ne (tg := tg) (by omega))]
        have hd : ∀ y, w_19 y = none ↔ w y = none := fun y => by rw [ew_19, ew_18, ew_17, bx_uu, bx_uu]; exact up_dom hla1.1
        have hq2 : w_19 b = some (.inl (G.2.1 0, 256, .inl lg.1)) := by rw [ew_19, ew_18, ew_17, bx_uu, bx_uu, va_up_ne _ _ (wd_ne hla1.2.1 hla1.1 (by simp))]; exact hla1.2.1
        have hq3 : w_19 z = some (.inl (G.2.1 1, 256, .inl lg.2.1)) := by rw [ew_19, ew_18, ew_17, bx_uu, bx_uu, va_up_ne _ _ (wd_ne hla1.2.2 hla1.1 (by simp))]; exact hla1.2.2
        have hla2 := la_upd (lg2 := (lg.1, lg.2.1, an, bn, k)) hla e1 tga tgb tgz hk ⟨q1, hq2, hq3⟩
        have hs2 := hs_la hs wP hB3 (fun y hy hq => hk y hy (by omega)) hd hla2
        have hcF := hc_kp hc hg (fun y hy hq => hk y hy (by omega))
        exact ct_iret S hr rfl hlocks hW (⟨_, tg, Or.inr ⟨hok, rfl, i, an, bn, lg, rfl, rfl, han, rfl, hbn, hlgi, rfl⟩, ⟨B, E, _, la, pa, ta, hcF, hg, hs2.1, hs2.2.1, hs2.2.2.1, hs2.2.2.2, hml, hmd, hwd, hpl⟩, ex_rf, fun y hy hq => hk y hy (by have hq : 500 ≤ tg y ∧ tg y < 600 := hq; omega)⟩) (Nat.le_refl _) (Nat.le_refl _) d_HR_ends_57
      · refine lv_iconst (v := -1) hx hb d_HR_ends_22 (by decide) ?_
        exact ct_iret S hr rfl hlocks hW (⟨_, tg, Or.inl ⟨fun q => bl_f hv2 hb2 q.2.2, rfl, rfl⟩, h, ex_rf, kp_rf⟩) (Nat.le_refl _) (Nat.le_refl _) d_HR_ends_23
end
section
/-! THE CLASS: run. -/

set_option maxHeartbeats 4000000 in
set_option maxRecDepth 100000 in
/-- the loop of run -/
theorem lo_HR_run {p_ : Program} {l : Launch} {e_ : Env} {s : State} {m : MethodId} {args : Array Value} {below : List Frame} {meth : Method} {c_ : Code} {Q : State → Prop} {G : ev_G} {A : Nat → Prop} (S : CallFix p_ m c_ b_HR_run 5 s args lw_good "HyphenRows") (hE : ev_K G A s s.heap) {w : wd_M} {tg : Nat → Nat} {r i a : Nat} {B E : Nat → Nat} {Fz : Nat → Nat → Int32} {la pa ta : List Nat} {Ls : List hy_L} {Ps : List hy_P} {Ts : List hy_T} {ml md wd : List Int32} {lg : hy_L} (hg : hr_g tg r B) (wL : Ls.length ≤ 4) (wP : Ps.length ≤ 150) (wT : Ts.length ≤ 40) (wwd : wd.length ≤ 30) (hlgi : Ls[i]? = some lg) (hai : la[i]? = some a) (hlr : lg.2.2.1 ≤ 20 ∧ lg.2.2.2.1 ≤ 20) (hdig : ∀ k, k ≤ wd.length → hy_dig Ps Ts i (hy_let lg wd) k (Fz 7 (k + 1))) (kk : ∀ (k : Nat), 1 ≤ k → wd.length ≤ k → (k ≤ wd.length ∨ k = 1) → ∀ (F : Nat → Nat → Int32) (w1 : wd_M) (H : Heap) (locs : List Loc), (∀ k2, k2 ≠ 8 → F k2 = Fz k2) → li_ ((hy_pls Ps Ts i lg wd k).map nI) (F 8) → hr_c G w1 r B F (nI (hy_tot Ps)) (nI ml.length) (nI wd.length) (nI (hy_pls Ps Ts i lg wd k).length) → hs_ G w1 tg B E la pa ta Ls Ps Ts → kp_ w w1 tg (fun t => 500 ≤ t ∧ t < 600) → wd_W G.1 ev_cl A w1 s.heap H locs → ∀ ls : Array Slot, lv_has ls 5 [(0, .ref r)] → W p_ l e_ (rm_ 5 0 0) s m args below meth c_ H locs 0 0 Q (F0 m 133 ls [])) :
    ∀ (fu : Nat) (k : Nat) (xi : Int32) (F : Nat → Nat → Int32) (w1 : wd_M) (H : Heap) (locs : List Loc) (ls : Array Slot), wd.length + 1 < k + fu → 1 ≤ k → (k ≤ wd.length ∨ k = 1) → xi = nI k → (∀ k2, k2 ≠ 8 → F k2 = Fz k2) → li_ ((hy_pls Ps Ts i lg wd k).map nI) (F 8) → hr_c G w1 r B F (nI (hy_tot Ps)) (nI ml.length) (nI wd.length) (nI (hy_pls Ps Ts i lg wd k).length) → hs_ G w1 tg B E la pa ta Ls Ps Ts → kp_ w w1 tg (fun t => 500 ≤ t ∧ t < 600) → wd_W G.1 ev_cl A w1 s.heap H locs → lv_has ls 5 [(0, .ref r), (1, .int (nI i)), (2, .ref a), (3, .int xi)] → W p_ l e_ (rm_ 5 0 0) s m args below meth c_ H locs 0 0 Q (F0 m 52 ls []) := by
  have hx := S.1
  have hb := S.2.1
  have hK := hE.1
  intro fu
  induction fu with
  | zero =>
    intro k xi F w1 H locs ls hfu hk1 hku exi hF hpl hc0 hs hkp hW hl
    exact absurd hfu (by omega)
  | succ fu ih =>
    intro k xi F w1 H locs ls hfu hk1 hku exi hF hpl hc0 hs hkp hW hl
    obtain ⟨hr0, a3, a4, a5, a6, a7, a8⟩ := id hc0
    have hB3 : ∀ i, i < 3 → tg (B i) = 2 + i := fun i hi => hg.2 i (by omega)
    refine lv_iload_n hx hb d_HR_run_52 rfl (lv_at hl 3 rfl) ?_
    refine lv_aload_n hx hb d_HR_run_53 rfl (lv_at hl 0 rfl) ?_
    refine wd_get S i_HR hK hW hr0 rfl 8 (by decide) k_HR_39 rfl rfl d_HR_run_54 ?_
    refine lv_icmp_ge (tgt := 133) hx hb d_HR_run_57 (by decide) (fun h57 => ?_) (fun h57 => ?_)
    · exact kk k hk1 (by rw [exi] at h57; exact (nI_leI (by omega) (by omega)).mp h57) hku F w1 H locs hF hpl hc0 hs hkp hW ls (lv_sub hl [0] rfl)
    · have hlt : k < wd.length := by rw [exi] at h57; exact Nat.lt_of_not_le (fun q => h57 (nI_le q (by omega)))
      obtain ⟨a2, b, z, e1, ⟨q1, -⟩, -⟩ := hs.2.1.2 i lg hlgi
      have haa : a2 = a := Option.some.inj (e1.symm.trans hai)
      subst haa
      refine lv_iload_n hx hb d_HR_run_60 rfl (lv_at hl 3 rfl) ?_
      refine lv_aload_n hx hb d_HR_run_61 rfl (lv_at hl 2 rfl) ?_
      refine wd_get S i_La hK hW q1 rfl 2 (by decide) k_HR_89 rfl rfl d_HR_run_62 ?_
      refine lv_icmp_lt (tgt := 85) hx hb d_HR_run_65 (by decide) (fun h65 => ?_) (fun h65 => ?_)
      · refine lv_iconst (v := 0) hx hb d_HR_run_85 (by decide) ?_
        refine lv_istore (lv' := [(4, .int 0), (0, .ref r), (1, .int (nI i)), (2, .ref a2), (3, .int xi)]) hx hb d_HR_run_86 hl (by decide) rfl (fun ls hl => ?_)
        refine lv_iload hx hb d_HR_run_88 (lv_at hl 0 rfl) ?_
        refine lv_if_eq (tgt := 127) hx hb d_HR_run_90 (by decide) (fun hz => ?_) (fun hz => ?_)
        · obtain ⟨xi2, exi2⟩ : ∃ y : Int32, y = xi + 1 := ⟨_, rfl⟩
          refine lv_iinc (v := xi2) (lv' := [(3, .int xi2), (4, .int 0), (0, .ref r), (1, .int (nI i)), (2, .ref a2)]) hx hb d_HR_run_127 hl (k := 4) rfl (by rw [exi2]; rfl) (by decide) rfl (fun ls hl => ?_)
          have hno : ¬ hy_pk Ps Ts i lg wd k := fun q => by rw [exi] at h65; have h9 := (nI_ltI (by omega) (by omega)).mp h65; have := q.2.2.1; omega
          refine lv_goto (tgt := 52) hx hb d_HR_run_130 (by decide) ?_
          exact ih (k + 1) xi2 F w1 _ _ _ (by omega) (by omega) (by omega) (by rw [exi2, exi]; exact nI_1 k) hF (by rw [hy_pls_no hno]; exact hpl) (by rw [hy_pls_no hno]; exact hc0) hs hkp hW (lv_sub hl [2, 3, 4, 0] rfl)
        · exact absurd rfl hz
      · have hl1 : lg.2.2.1 ≤ k := by rw [exi] at h65; exact Nat.le_of_not_lt (fun q => h65 (nI_lt q (by omega)))
        refine lv_iload_n hx hb d_HR_run_68 rfl (lv_at hl 3 rfl) ?_
        refine lv_aload_n hx hb d_HR_run_69 rfl (lv_at hl 0 rfl) ?_
        refine wd_get S i_HR hK hW hr0 rfl 8 (by decide) k_HR_39 rfl rfl d_HR_run_70 ?_
        refine lv_aload_n hx hb d_HR_run_73 rfl (lv_at hl 2 rfl) ?_
        refine wd_get S i_La hK hW q1 rfl 3 (by decide) k_HR_92 rfl rfl d_HR_run_74 ?_
        refine lv_isub hx hb d_HR_run_77 ?_
        refine lv_icmp_gt (tgt := 85) hx hb d_HR_run_78 (by decide) (fun h78 => ?_) (fun h78 => ?_)
        · refine lv_iconst (v := 0) hx hb d_HR_run_85 (by decide) ?_
          refine lv_istore (lv' := [(4, .int 0), (0, .ref r), (1, .int (nI i)), (2, .ref a2), (3, .int xi)]) hx hb d_HR_run_86 hl (by decide) rfl (fun ls hl => ?_)
          refine lv_iload hx hb d_HR_run_88 (lv_at hl 0 rfl) ?_
          refine lv_if_eq (tgt := 127) hx hb d_HR_run_90 (by decide) (fun hz => ?_) (fun hz => ?_)
          · obtain ⟨xi2, exi2⟩ : ∃ y : Int32, y = xi + 1 := ⟨_, rfl⟩
            refine lv_iinc (v := xi2) (lv' := [(3, .int xi2), (4, .int 0), (0, .ref r), (1, .int (nI i)), (2, .ref a2)]) hx hb d_HR_run_127 hl (k := 4) rfl (by rw [exi2]; rfl) (by decide) rfl (fun ls hl => ?_)
            have hno : ¬ hy_pk Ps Ts i lg wd k := fun q => by rw [exi] at h78; have h9 := h78; rw [Int32.lt_iff_toInt_lt, nI_toInt (by omega), pk_sub_toInt (by omega) (by omega)] at h9; have := q.2.2.2.1; omega
            refine lv_goto (tgt := 52) hx hb d_HR_run_130 (by decide) ?_
            exact ih (k + 1) xi2 F w1 _ _ _ (by omega) (by omega) (by omega) (by rw [exi2, exi]; exact nI_1 k) hF (by rw [hy_pls_no hno]; exact hpl) (by rw [hy_pls_no hno]; exact hc0) hs hkp hW (lv_sub hl [2, 3, 4, 0] rfl)
          · exact absurd rfl hz
        · have hr1 : k + lg.2.2.2.1 ≤ wd.length := by rw [exi] at h78; have h9 := Int32.not_lt.mp h78; rw [Int32.le_iff_toInt_le, nI_toInt (by omega), pk_sub_toInt (by omega) (by omega)] at h9; omega
          refine lv_iconst (v := 1) hx hb d_HR_run_81 (by decide) ?_
          refine lv_goto (tgt := 86) hx hb d_HR_run_82 (by decide) ?_
          refine lv_istore (lv' := [(4, .int 1), (0, .ref r), (1, .int (nI i)), (2, .ref a2), (3, .int xi)]) hx hb d_HR_run_86 hl (by decide) rfl (fun ls hl => ?_)
          refine lv_iload hx hb d_HR_run_88 (lv_at hl 0 rfl) ?_
          refine lv_if_eq (tgt := 127) hx hb d_HR_run_90 (by decide) (fun hz2 => ?_) (fun hz2 => ?_)
          · exact absurd hz2 (by decide)
          · refine lv_aload_n hx hb d_HR_run_93 rfl (lv_at hl 1 rfl) ?_
            refine wd_get S i_HR hK hW hr0 rfl 10 (by decide) k_HR_45 rfl rfl d_HR_run_94 ?_
            refine lv_iload_n hx hb d_HR_run_97 rfl (lv_at hl 4 rfl) ?_
            refine lv_iconst (v := 1) hx hb d_HR_run_98 (by decide) ?_
            refine lv_iadd hx hb d_HR_run_99 ?_
            rw [show xi + 1 = nI (k + 1) from by rw [exi]; exact nI_1 k]
            refine wd_iald S hK hW 0 a7 rfl (vp_in_nI (by omega) (by omega)) d_HR_run_100 ?_
            rw [nI_clamp (by omega)]
            have hdk := hdig k (by omega)
            rw [← hF 7 (by omega)] at hdk
            refine lv_iconst (v := 2) hx hb d_HR_run_101 (by decide) ?_
            refine lv_irem hx hb d_HR_run_102 (by decide) ?_
            refine lv_iconst (v := 1) hx hb d_HR_run_103 (by decide) ?_
            refine lv_icmp_ne (tgt := 127) hx hb d_HR_run_104 (by decide) (fun h104 => ?_) (fun h104 => ?_)
            · obtain ⟨xi2, exi2⟩ : ∃ y : Int32, y = xi + 1 := ⟨_, rfl⟩
              refine lv_iinc (v := xi2) (lv' := [(3, .int xi2), (4, .int 1), (0, .ref r), (1, .int (nI i)), (2, .ref a2)]) hx hb d_HR_run_127 hl (k := 4) rfl (by rw [exi2]; rfl) (by decide) rfl (fun ls hl => ?_)
              have hno : ¬ hy_pk Ps Ts i lg wd k := fun q => by obtain ⟨-, -, -, -, d, hd, ho⟩ := q; rw [hy_dig_one (by omega) hd hdk] at ho; exact h104 ho
              refine lv_goto (tgt := 52) hx hb d_HR_run_130 (by decide) ?_
              exact ih (k + 1) xi2 F w1 _ _ _ (by omega) (by omega) (by omega) (by rw [exi2, exi]; exact nI_1 k) hF (by rw [hy_pls_no hno]; exact hpl) (by rw [hy_pls_no hno]; exact hc0) hs hkp hW (lv_sub hl [2, 3, 4, 0] rfl)
            · have hyes : hy_pk Ps Ts i lg wd k := ⟨hk1, hlt, hl1, hr1, F 7 (k + 1), hdk, h104⟩
              have hpn := hy_pls_le (P := Ps) (T := Ts) (lang := i) (lg := lg) (wd := wd) (n := k)
              refine lv_aload_n hx hb d_HR_run_107 rfl (lv_at hl 1 rfl) ?_
              refine wd_get S i_HR hK hW hr0 rfl 11 (by decide) k_HR_48 rfl rfl d_HR_run_108 ?_
              refine lv_aload_n hx hb d_HR_run_111 rfl (lv_at hl 1 rfl) ?_
              refine wd_get S i_HR hK hW hr0 rfl 12 (by decide) k_HR_51 rfl rfl d_HR_run_112 ?_
              refine lv_iload_n hx hb d_HR_run_115 rfl (lv_at hl 4 rfl) ?_
              refine wd_iast S hK hW 0 a8 rfl (vp_in_nI (by omega) (by omega)) d_HR_run_116 (fun H locs w_1 ew_1 hW => ?_)
              have hs := hs_up hs wL wP hB3 a8 ew_1 (Or.inr (by rw [hg.2 8 (by omega)]; omega))
              have hkp := kp_tr hkp (up_kp ew_1 (by rw [hg.2 8 (by omega)]; show ¬ (_ ∧ _); omega))
              have hr0 := wd_keep ew_1 (wd_ne hr0 a8 (by simp)) hr0
              have a3 := wd_keep ew_1 (wd_ne a3 a8 (by simp)) a3
              have a4 := wd_keep ew_1 (wd_ne a4 a8 (by simp)) a4
              have a5 := wd_keep ew_1 (tg_ne (tg := tg) (by rw [hg.2 5 (by omega), hg.2 8 (by omega)]; omega)) a5
              have a6 := wd_keep ew_1 (wd_ne a6 a8 (by simp)) a6
              have a7 := wd_keep ew_1 (wd_ne a7 a8 (by simp)) a7
              have q1 := wd_keep ew_1 (wd_ne q1 a8 (by simp)) q1
              have a8 : w_1 (B 8) = some (.inl (G.2.1 0, 30, .inl (upd (F 8) ((nI (hy_pls Ps Ts i lg wd k).length) : Int32).toNatClampNeg xi))) := wd_here ew_1
              rw [nI_clamp (by omega)] at a8
              refine lv_aload_n hx hb d_HR_run_117 rfl (lv_at hl 1 rfl) ?_
              refine lv_dup hx hb d_HR_run_118 rfl ?_
              refine wd_get S i_HR hK hW hr0 rfl 12 (by decide) k_HR_51 rfl rfl d_HR_run_119 ?_
              refine lv_iconst (v := 1) hx hb d_HR_run_122 (by decide) ?_
              refine lv_iadd hx hb d_HR_run_123 ?_
              refine lv_topi (fun nl enl => ?_)
              rw [nI_1] at enl
              refine wd_put S i_HR t_HR t_HR_ok n_HR hK hW hr0 rfl 12 (by decide) k_HR_51 rfl rfl rfl rfl (Nat.le_of_ble_eq_true rfl) d_HR_run_124 (fun H locs w_2 ew_2 hW => ?_)
              have hs := hs_up hs wL wP hB3 hr0 ew_2 (Or.inl hg.1)
              have hkp := kp_tr hkp (up_kp ew_2 (by rw [hg.1]; show ¬ (_ ∧ _); omega))
              have a3 := wd_keep ew_2 (wd_ne a3 hr0 (by simp)) a3
              have a4 := wd_keep ew_2 (wd_ne a4 hr0 (by simp)) a4
              have a5 := wd_keep ew_2 (wd_ne a5 hr0 (by simp)) a5
              have a6 := wd_keep ew_2 (wd_ne a6 hr0 (by simp)) a6
              have a7 := wd_keep ew_2 (wd_ne a7 hr0 (by simp)) a7
              have a8 := wd_keep ew_2 (wd_ne a8 hr0 (by simp)) a8
              have q1 := wd_keep ew_2 (wd_ne q1 hr0 (by simp)) q1
              have hr0 : w_2 r = some (.inr (0, [.ref (B 0), .ref (B 1), .ref (B 2), .int (nI (hy_tot Ps)), .ref (B 3), .ref (B 4), .int (nI ml.length), .ref (B 5), .int (nI wd.length), .ref (B 6), .ref (B 7), .ref (B 8), .int nl])) := wd_here ew_2
              obtain ⟨xi2, exi2⟩ : ∃ y : Int32, y = xi + 1 := ⟨_, rfl⟩
              refine lv_iinc (v := xi2) (lv' := [(3, .int xi2), (4, .int 1), (0, .ref r), (1, .int (nI i)), (2, .ref a2)]) hx hb d_HR_run_127 hl (k := 4) rfl (by rw [exi2]; rfl) (by decide) rfl (fun ls hl => ?_)
              rw [enl] at hr0
              have hcF : hr_c G w_2 r B (fun k2 => if k2 = 8 then upd (F 8) (hy_pls Ps Ts i lg wd k).length xi else F k2) (nI (hy_tot Ps)) (nI ml.length) (nI wd.length) (nI (hy_pls Ps Ts i lg wd (k + 1)).length) := by rw [hy_pls_yes hyes, List.length_append]; exact ⟨hr0, a3, a4, a5, a6, a7, a8⟩
              refine lv_goto (tgt := 52) hx hb d_HR_run_130 (by decide) ?_
              exact ih (k + 1) xi2 _ _ _ _ _ (by omega) (by omega) (by omega) (by rw [exi2, exi]; exact nI_1 k) (fun k2 hk2 => by show (if k2 = 8 then _ else F k2) = Fz k2; rw [if_neg hk2]; exact hF k2 hk2) (by rw [hy_pls_yes hyes, List.map_append, exi]; show li_ _ (if 8 = 8 then _ else _); rw [if_pos rfl]; have h9 := li_put (y := nI k) hpl; rw [List.length_map] at h9; exact h9) hcF hs hkp hW (lv_sub hl [2, 3, 4, 0] rfl)

set_option maxHeartbeats 4000000 in
set_option maxRecDepth 100000 in
/-- run -/
theorem c_HR_run (l : Launch) (G : ev_G) (w : wd_M) (sz : Nat) (tg : Nat → Nat) (r : Nat) (Ls : List hy_L) (Ps : List hy_P) (Ts : List hy_T) (ml md wd : List Int32) (pl : List Nat) (x : Int32) (h : hr_ G w tg r Ls Ps Ts ml md wd pl) (hwf : hy_wf Ls Ps Ts ml md wd pl) : ct_i l y_HR_run b_HR_run 5 (some FieldType.int) (rm_ 5 0 0) G w sz [.ref r, .int x] (hq_ G w tg r (sp_run x (Ls, Ps, Ts, ml, md, wd, pl))) := by
  refine ct_enter (by decide +kernel) (Nat.le_of_ble_eq_true rfl) ?_
  intro p_ e_ s m below meth c_ hsz S hr hlocks hname hE hW ls hl
  have S : CallFix p_ m c_ b_HR_run 5 s _ lw_good "HyphenRows" := S
  have hx := S.1
  have hb := S.2.1
  have hK := hE.1
  have hl : lv_has ls 5 [(0, .ref r), (1, .int x)] := hl
  obtain ⟨B, E, F, la, pa, ta, hc, hg, hal, hla, hpa, hta, hml, hmd, hwd, hpl⟩ := id h
  have hs : hs_ G w tg B E la pa ta Ls Ps Ts := ⟨hal, hla, hpa, hta⟩
  obtain ⟨hr0, a3, a4, a5, a6, a7, a8⟩ := id hc
  obtain ⟨wL, wP, wT, wm, wml, wwd, wpl, wtot, wmx, wdx, wws, wplx, wlg, wps, wts⟩ := id hwf
  have hB3 : ∀ i, i < 3 → tg (B i) = 2 + i := fun i hi => hg.2 i (by omega)
  have hkp : kp_ w w tg (fun t => 500 ≤ t ∧ t < 600) := kp_rf
  obtain ⟨mo0, haL, he0⟩ := id hs.1.1
  refine lv_aload_n hx hb d_HR_run_0 rfl (lv_at hl 0 rfl) ?_
  refine lv_iload_n hx hb d_HR_run_1 rfl (lv_at hl 1 rfl) ?_
  refine ct_goi hW (ct_runV (As := [.int x]) (rest := []) (q := (R_HR, F_HR, 13)) S hE hW (c_HR_isLanguage l G _ _ r B E F (nI (hy_tot Ps)) (nI ml.length) (nI wd.length) (nI pl.length) la x hc hal.1) hr0 rfl kc_HR_isLanguage kz_HR k_HR_65 ki_HR_isLanguage kv_HR_isLanguage kd_HR_isLanguage ⟨Nat.le_of_ble_eq_true rfl, Nat.le_of_ble_eq_true rfl⟩ hl.1 (Nat.le_of_ble_eq_true rfl) d_HR_run_2 ⟨Nat.le_of_ble_eq_true rfl, Nat.le_of_ble_eq_true rfl⟩) (fun v_3 u_1 H locs hp_2 hW => ?_)
  obtain ⟨hv, hu_4⟩ := hp_2
  rw [hu_4] at hW
  rw [hla.1] at hv
  refine lv_if_ne (tgt := 10) hx hb d_HR_run_5 (by decide) (fun h5 => ?_) (fun h5 => ?_)
  · have hnm0 := bl_t hv h5
    have hnm : nm_ x la.length := by rw [hla.1]; exact hnm0
    refine lv_aload_n hx hb d_HR_run_10 rfl (lv_at hl 0 rfl) ?_
    refine lv_iconst (v := 0) hx hb d_HR_run_11 (by decide) ?_
    refine wd_put S i_HR t_HR t_HR_ok n_HR hK hW hr0 rfl 12 (by decide) k_HR_51 rfl rfl rfl rfl (Nat.le_of_ble_eq_true rfl) d_HR_run_12 (fun H locs w_5 ew_5 hW => ?_)
    have hs := hs_up hs wL wP hB3 hr0 ew_5 (Or.inl hg.1)
    have hkp := kp_tr hkp (up_kp ew_5 (by rw [hg.1]; show ¬ (_ ∧ _); omega))
    have a3 := wd_keep ew_5 (wd_ne a3 hr0 (by simp)) a3
    have a4 := wd_keep ew_5 (wd_ne a4 hr0 (by simp)) a4
    have a5 := wd_keep ew_5 (wd_ne a5 hr0 (by simp)) a5
    have a6 := wd_keep ew_5 (wd_ne a6 hr0 (by simp)) a6
    have a7 := wd_keep ew_5 (wd_ne a7 hr0 (by simp)) a7
    have a8 := wd_keep ew_5 (wd_ne a8 hr0 (by simp)) a8
    have haL := wd_keep ew_5 (wd_ne haL hr0 (by simp)) haL
    have hr0 : w_5 r = some (.inr (0, [.ref (B 0), .ref (B 1), .ref (B 2), .int (nI (hy_tot Ps)), .ref (B 3), .ref (B 4), .int (nI ml.length), .ref (B 5), .int (nI wd.length), .ref (B 6), .ref (B 7), .ref (B 8), .int 0])) := wd_here ew_5
    have hc1 : hr_c G w_5 r B F (nI (hy_tot Ps)) (nI ml.length) (nI wd.length) 0 := ⟨hr0, a3, a4, a5, a6, a7, a8⟩
    obtain ⟨i, hil, rfl⟩ := nm_of hnm (by rw [hla.1]; omega)
    have hil2 : i < Ls.length := by rw [← hla.1]; exact hil
    have hlgi : Ls[i]? = some Ls[i] := List.getElem?_eq_getElem hil2
    generalize Ls[i] = lg at hlgi
    obtain ⟨a, b, z, e1, hla1, tga, tgb, tgz⟩ := hs.2.1.2 i lg hlgi
    have hlgm := wlg lg (List.mem_of_getElem? hlgi)
    obtain ⟨mo0, haL, he0⟩ := id hs.1.1
    refine lv_aload_n hx hb d_HR_run_15 rfl (lv_at hl 0 rfl) ?_
    refine wd_get S i_HR hK hW hr0 rfl 0 (by decide) k_HR_10 rfl rfl d_HR_run_16 ?_
    refine lv_iload_n hx hb d_HR_run_19 rfl (lv_at hl 1 rfl) ?_
    refine ct_goq hW (ct_runV (As := [.int (nI i)]) (rest := []) (q := (R_AL, F_AL, 3)) S hE hW (c_AL_get l G _ _ (B 0) (E 0) la i hs.1.1 hil) haL rfl kc_AL_get kz_AL k_HR_75 ki_AL_get kv_AL_get kd_AL_get ⟨Nat.le_of_ble_eq_true rfl, Nat.le_of_ble_eq_true rfl⟩ hl.1 (Nat.le_of_ble_eq_true rfl) d_HR_run_20 ⟨Nat.le_of_ble_eq_true rfl, Nat.le_of_ble_eq_true rfl⟩) (fun v_8 u_6 H locs hp_7 hW => ?_)
    obtain ⟨hvg, hu_9⟩ := hp_7
    rw [hu_9] at hW
    rw [hvg, e1]
    refine W.eq (g2 := F0 m 23 ls [.ref a]) rfl ?_
    refine wd_cast S (T := F_La) (N := 5) k_HR_58 hK hW hla1.1 rfl d_HR_run_23 ?_
    obtain ⟨q1, q2, q3⟩ := id hla1
    refine lv_astore_n (lv' := [(2, .ref a), (0, .ref r), (1, .int (nI i))]) hx hb d_HR_run_26 rfl hl (by decide) rfl (fun ls hl => ?_)
    refine lv_aload_n hx hb d_HR_run_27 rfl (lv_at hl 1 rfl) ?_
    refine lv_aload_n hx hb d_HR_run_28 rfl (lv_at hl 0 rfl) ?_
    refine ct_goi hW (ct_runV (As := [.ref a]) (rest := []) (q := (R_HR, F_HR, 13)) S hE hW (c_HR_staysWhole l G _ _ r B F (nI (hy_tot Ps)) (nI ml.length) 0 a b z lg wd hc1 hla1 hwd wwd wws) hr0 rfl kc_HR_staysWhole kz_HR k_HR_148 ki_HR_staysWhole kv_HR_staysWhole kd_HR_staysWhole ⟨Nat.le_of_ble_eq_true rfl, Nat.le_of_ble_eq_true rfl⟩ hl.1 (Nat.le_of_ble_eq_true rfl) d_HR_run_29 ⟨Nat.le_of_ble_eq_true rfl, Nat.le_of_ble_eq_true rfl⟩) (fun v_12 u_10 H locs hp_11 hW => ?_)
    obtain ⟨hvw, hu_13⟩ := hp_11
    rw [hu_13] at hW
    refine lv_if_ne (tgt := 43) hx hb d_HR_run_32 (by decide) (fun h32 => ?_) (fun h32 => ?_)
    · refine lv_iconst (v := 0) hx hb d_HR_run_43 (by decide) ?_
      exact ct_iret S hr rfl hlocks hW (⟨(Ls, Ps, Ts, ml, md, wd, []), tg, Or.inr ⟨hnm0, i, lg, rfl, hlgi, Or.inl ⟨Or.inl (bl_t hvw h32), rfl, rfl⟩⟩, ⟨B, E, _, la, pa, ta, hc1, hg, hs.1, hs.2.1, hs.2.2.1, hs.2.2.2, hml, hmd, hwd, li_nil⟩, ex_rf, hkp⟩) (Nat.le_refl _) (Nat.le_refl _) d_HR_run_44
    · have hnw := bl_f hvw h32
      refine lv_aload_n hx hb d_HR_run_35 rfl (lv_at hl 1 rfl) ?_
      refine lv_aload_n hx hb d_HR_run_36 rfl (lv_at hl 0 rfl) ?_
      refine ct_goi hW (ct_runV (As := [.ref a]) (rest := []) (q := (R_HR, F_HR, 13)) S hE hW (c_HR_spellWord l G _ _ r B F (nI (hy_tot Ps)) (nI ml.length) 0 a b z lg wd hc1 hla1 hwd wwd wws) hr0 rfl kc_HR_spellWord kz_HR k_HR_123 ki_HR_spellWord kv_HR_spellWord kd_HR_spellWord ⟨Nat.le_of_ble_eq_true rfl, Nat.le_of_ble_eq_true rfl⟩ hl.1 (Nat.le_of_ble_eq_true rfl) d_HR_run_37 ⟨Nat.le_of_ble_eq_true rfl, Nat.le_of_ble_eq_true rfl⟩) (fun v_16 u_14 H locs hp_15 hW => ?_)
      obtain ⟨hv6, g6, eu, hrow⟩ := hp_15
      have hs := hs_up hs wL wP hB3 a6 eu (Or.inr (by rw [hg.2 6 (by omega)]; omega))
      have hkp := kp_tr hkp (up_kp eu (by rw [hg.2 6 (by omega)]; show ¬ (_ ∧ _); omega))
      have hc2 := hc_6 hc1 eu
      refine lv_if_ne (tgt := 45) hx hb d_HR_run_40 (by decide) (fun h40 => ?_) (fun h40 => ?_)
      · have hsp := bl_t hv6 h40
        have hll : (hy_let lg wd).length = wd.length := List.length_map _
        have hcl : hr_c G u_14 r B (fun k => if k = 6 then g6 else F k) (nI (hy_tot Ps)) (nI ml.length) (nI (hy_let lg wd).length) 0 := by rw [hll]; exact hc2
        have hr1 := hc2.1
        refine lv_aload_n hx hb d_HR_run_45 rfl (lv_at hl 1 rfl) ?_
        refine lv_iload_n hx hb d_HR_run_46 rfl (lv_at hl 2 rfl) ?_
        refine ct_gov hW (ct_runV (As := [.int (nI i)]) (rest := []) (q := (R_HR, F_HR, 13)) S hE hW (c_HR_findRowDigits l G _ _ r i B E (fun k => if k = 6 then g6 else F k) (nI (hy_tot Ps)) (nI ml.length) 0 tg pa ta Ps Ts (hy_let lg wd) hcl hg hs.1.2.1 hs.2.2.1 wps wP (hrow hsp) (by omega) (by omega) hs.1.2.2.1 hs.2.2.2 wts wT) hr1 rfl kc_HR_findRowDigits kz_HR k_HR_151 ki_HR_findRowDigits kv_HR_findRowDigits kd_HR_findRowDigits ⟨Nat.le_of_ble_eq_true rfl, Nat.le_of_ble_eq_true rfl⟩ hl.1 (Nat.le_of_ble_eq_true rfl) d_HR_run_47 ⟨Nat.le_of_ble_eq_true rfl, Nat.le_of_ble_eq_true rfl⟩) (fun u_17 H locs hp_18 hW => ?_)
        obtain ⟨g7, eu2, hdig⟩ := hp_18
        have hs := hs_up hs wL wP hB3 hc2.2.2.2.2.2.1 eu2 (Or.inr (by rw [hg.2 7 (by omega)]; omega))
        have hkp := kp_tr hkp (up_kp eu2 (by rw [hg.2 7 (by omega)]; show ¬ (_ ∧ _); omega))
        have hc3 := hc_7 hc2 eu2
        refine lv_iconst (v := 1) hx hb d_HR_run_50 (by decide) ?_
        refine lv_istore_n (lv' := [(3, .int 1), (2, .ref a), (0, .ref r), (1, .int (nI i))]) hx hb d_HR_run_51 rfl hl (by decide) rfl (fun ls hl => ?_)
        have hp1 : hy_pls Ps Ts i lg wd 1 = [] := hy_pls_no (n := 0) (fun q => by have := q.1; omega)
        refine lo_HR_run (w := w) (Fz := fun k => if k = 7 then g7 else if k = 6 then g6 else F k) (ml := ml) (md := md) S hE hg wL wP wT wwd hlgi e1 hlgm.2 (fun k hk => hdig k (by rw [hll]; exact hk)) (fun k hk1 hk2 hk3 F2 w2 H locs hF2 hpl2 hc4 hs hkp hW ls hl => ?_) (wd.length + 1) 1 1 _ _ _ _ _ (by omega) (by omega) (Or.inr rfl) rfl (fun k2 _ => rfl) (by rw [hp1]; exact li_nil) (by rw [hp1]; exact hc3) hs hkp hW (lv_sub hl [2, 3, 1, 0] rfl)
        have hex : hy_pls Ps Ts i lg wd k = hy_pls Ps Ts i lg wd wd.length := (Nat.eq_zero_or_pos wd.length).elim (fun z0 => by rw [show k = 1 by omega, z0, hp1]; rfl) (fun z0 => by rw [show k = wd.length by omega])
        rw [hex] at hpl2 hc4
        have hr5 := hc4.1
        refine lv_aload_n hx hb d_HR_run_133 rfl (lv_at hl 0 rfl) ?_
        refine wd_get S i_HR hK hW hr5 rfl 12 (by decide) k_HR_51 rfl rfl d_HR_run_134 ?_
        exact ct_iret S hr rfl hlocks hW (⟨(Ls, Ps, Ts, ml, md, wd, hy_pls Ps Ts i lg wd wd.length), tg, Or.inr ⟨hnm0, i, lg, rfl, hlgi, Or.inr ⟨fun q => q.elim hnw (fun z => z hsp), rfl, rfl⟩⟩, ⟨B, E, F2, la, pa, ta, hc4, hg, hs.1, hs.2.1, hs.2.2.1, hs.2.2.2, by rw [hF2 3 (by omega)]; exact hml, by rw [hF2 4 (by omega)]; exact hmd, by rw [hF2 5 (by omega)]; exact hwd, hpl2⟩, ex_rf, hkp⟩) (Nat.le_refl _) (Nat.le_refl _) d_HR_run_137
      · refine lv_iconst (v := 0) hx hb d_HR_run_43 (by decide) ?_
        exact ct_iret S hr rfl hlocks hW (⟨(Ls, Ps, Ts, ml, md, wd, []), tg, Or.inr ⟨hnm0, i, lg, rfl, hlgi, Or.inl ⟨Or.inr (bl_f hv6 h40), rfl, rfl⟩⟩, ⟨B, E, _, la, pa, ta, hc2, hg, hs.1, hs.2.1, hs.2.2.1, hs.2.2.2, hml, hmd, hwd, li_nil⟩, ex_rf, hkp⟩) (Nat.le_refl _) (Nat.le_refl _) d_HR_run_44
  · refine lv_iconst (v := -1) hx hb d_HR_run_8 (by decide) ?_
    exact ct_iret S hr rfl hlocks hW (⟨_, tg, Or.inl ⟨fun q => bl_f hv h5 q, rfl, rfl⟩, h, ex_rf, kp_rf⟩) (Nat.le_refl _) (Nat.le_refl _) d_HR_run_9
end
section
/-! THE CLASS: calls that make cells. -/

theorem wd_z0 {G : ev_G} {A : Nat → Prop} {s : State} {H : Heap} {locs : List Loc} {u : wd_M} (hE : ev_K G A s s.heap) (hW : wd_W G.1 ev_cl A u s.heap H locs) : u (G.2.2 0) = none := by
  cases hu : u (G.2.2 0) with
  | none => rfl
  | some x => exact absurd (hW.1.inA hu) hE.2.2.2.1.out
/-- the class behind a growth of its j-th list -/
theorem hs_gr {G : ev_G} {w u : wd_M} {tg tg2 : Nat → Nat} {r : Nat} {B E : Nat → Nat} {F : Nat → Nat → Int32} {tot mn wn pn : Int32} {la pa ta : List Nat} {Ls : List hy_L} {Ps : List hy_P} {Ts : List hy_T} (j : Nat) (hs : hs_ G w tg B E la pa ta Ls Ps Ts) (hc : hr_c G w r B F tot mn wn pn) (hg : hr_g tg r B) (wL : Ls.length ≤ 4) (wP : Ps.length ≤ 150) (hj : j < 3) (hk : ∀ x, w x ≠ none → tg x ≠ 2 + j → tg x ≠ 11 + j → u x = w x) (hx : ex_ w tg tg2) (hz : u (G.2.2 0) = none) :
    hr_c G u r B F tot mn wn pn ∧ hr_g tg2 r B ∧ (0 ≠ j → al_ G u (B 0) (E 0) la) ∧ (1 ≠ j → al_ G u (B 1) (E 1) pa) ∧ (2 ≠ j → al_ G u (B 2) (E 2) ta) ∧ (∀ i, i < 3 → i ≠ j → u (E i) ≠ none → tg2 (E i) = 11 + i) ∧ la_ G u tg2 la Ls ∧ pa_ G u tg2 pa Ps ∧ ta_ G u tg2 ta Ts := by
  obtain ⟨⟨h0, h1, h2, hEt⟩, hl, hp, h3⟩ := hs
  obtain ⟨hr0, a3, a4, a5, a6, a7, a8⟩ := id hc
  have kB : ∀ i, i < 9 → (∃ y, w (B i) = some y) → i ≠ j → u (B i) = w (B i) := fun i hi hy hij => by
    obtain ⟨y, hy⟩ := hy
    exact hk _ (wd_some hy) (by rw [hg.2 i hi]; omega) (by rw [hg.2 i hi]; omega)
  have kE : ∀ i, i < 3 → i ≠ j → w (E i) ≠ none → u (E i) = w (E i) := fun i hi hij hn => hk _ hn (by rw [hEt i hi hn]; omega) (by rw [hEt i hi hn]; omega)
  have hEz : ∀ (i : Nat) (els : List Nat), al_ G w (B i) (E i) els → u (E i) ≠ none → w (E i) ≠ none := fun i els h hu => by
    obtain ⟨mo, -, q⟩ := h
    rcases q with ⟨q, -⟩ | ⟨cap, f, q, -⟩
    · rw [q, hz] at hu; exact absurd rfl hu
    · exact wd_some q
  refine ⟨⟨?_, ?_, ?_, ?_, ?_, ?_, ?_⟩, ⟨(hx r (wd_some hr0)).trans hg.1, fun i hi => ?_⟩, fun q => al_keep h0 (kB 0 (by omega) ⟨_, h0.choose_spec.1⟩ q) (kE 0 (by omega) q), fun q => al_keep h1 (kB 1 (by omega) ⟨_, h1.choose_spec.1⟩ q) (kE 1 (by omega) q), fun q => al_keep h2 (kB 2 (by omega) ⟨_, h2.choose_spec.1⟩ q) (kE 2 (by omega) q), fun i hi hij hn => ?_, la_keep hl (fun x hy hq => hk x hy (by have hq : 1000 ≤ tg x ∧ tg x < 2000 := hq; omega) (by have hq : 1000 ≤ tg x ∧ tg x < 2000 := hq; omega)) hx wL, pa_keep hp (fun x hy hq => hk x hy (by have hq : 2000 ≤ tg x ∧ tg x < 10000 := hq; omega) (by have hq : 2000 ≤ tg x ∧ tg x < 10000 := hq; omega)) hx wP, ta_keep h3 (fun x hy hq => hk x hy (by have hq : 10000 ≤ tg x := hq; omega) (by have hq : 10000 ≤ tg x := hq; omega)) hx⟩
  · rw [hk r (wd_some hr0) (by rw [hg.1]; omega) (by rw [hg.1]; omega)]; exact hr0
  · rw [kB 3 (by omega) ⟨_, a3⟩ (by omega)]; exact a3
  · rw [kB 4 (by omega) ⟨_, a4⟩ (by omega)]; exact a4
  · rw [kB 5 (by omega) ⟨_, a5⟩ (by omega)]; exact a5
  · rw [kB 6 (by omega) ⟨_, a6⟩ (by omega)]; exact a6
  · rw [kB 7 (by omega) ⟨_, a7⟩ (by omega)]; exact a7
  · rw [kB 8 (by omega) ⟨_, a8⟩ (by omega)]; exact a8
  · have hne : w (B i) ≠ none := by
      match i, hi with
      | 0, _ => exact wd_some h0.choose_spec.1
      | 1, _ => exact wd_some h1.choose_spec.1
      | 2, _ => exact wd_some h2.choose_spec.1
      | 3, _ => exact wd_some a3
      | 4, _ => exact wd_some a4
      | 5, _ => exact wd_some a5
      | 6, _ => exact wd_some a6
      | 7, _ => exact wd_some a7
      | 8, _ => exact wd_some a8
      | i + 9, h => exact absurd h (by omega)
    exact (hx _ hne).trans (hg.2 i hi)
  · have hw : w (E i) ≠ none := by
      match i, hi with
      | 0, _ => exact hEz 0 la h0 hn
      | 1, _ => exact hEz 1 pa h1 hn
      | 2, _ => exact hEz 2 ta h2 hn
      | i + 3, h => exact absurd h (by omega)
    exact (hx _ hw).trans (hEt i hi hw)
theorem app_get {α β : Type} {xs : List α} {ys : List β} {x : α} {y : β} {P : Nat → α → β → Prop} (hl : xs.length = ys.length) (h : ∀ (i : Nat) (b : β), ys[i]? = some b → ∃ a, xs[i]? = some a ∧ P i a b) (hn : P ys.length x y) : ∀ (i : Nat) (b : β), (ys ++ [y])[i]? = some b → ∃ a, (xs ++ [x])[i]? = some a ∧ P i a b := by
  intro i b hb
  by_cases hi : i < ys.length
  · rw [List.getElem?_append_left hi] at hb
    obtain ⟨a, h1, h2⟩ := h i b hb
    exact ⟨a, by rw [List.getElem?_append_left (by omega)]; exact h1, h2⟩
  · rw [List.getElem?_append_right (by omega)] at hb
    have h1 : i - ys.length < 1 := (List.getElem?_eq_some_iff.mp hb).1
    have h2 : i = ys.length := by omega
    subst h2
    rw [Nat.sub_self] at hb
    cases hb
    exact ⟨x, by rw [List.getElem?_append_right (by omega), show ys.length - xs.length = 0 by omega]; rfl, hn⟩
theorem la_push {G : ev_G} {u : wd_M} {tg : Nat → Nat} {la : List Nat} {Ls : List hy_L} {a b z : Nat} {lg : hy_L} (h : la_ G u tg la Ls) (h1 : la_1 G u a b z lg) (t1 : tg a = 1000 + 3 * Ls.length) (t2 : tg b = 1001 + 3 * Ls.length) (t3 : tg z = 1002 + 3 * Ls.length) : la_ G u tg (la ++ [a]) (Ls ++ [lg]) := by
  refine ⟨by rw [List.length_append, List.length_append, h.1]; rfl, fun i lg2 hi => ?_⟩
  obtain ⟨a2, g1, b2, z2, g2⟩ := app_get (P := fun i a lg => ∃ b z : Nat, la_1 G u a b z lg ∧ tg a = 1000 + 3 * i ∧ tg b = 1001 + 3 * i ∧ tg z = 1002 + 3 * i) h.1 (fun i lg hi => by obtain ⟨a, b, z, q1, q2⟩ := h.2 i lg hi; exact ⟨a, q1, b, z, q2⟩) ⟨b, z, h1, t1, t2, t3⟩ i lg2 hi
  exact ⟨a2, b2, z2, g1, g2⟩
theorem pa_push {G : ev_G} {u : wd_M} {tg : Nat → Nat} {pa : List Nat} {Ps : List hy_P} {a b d : Nat} {f g : Nat → Int32} {p : hy_P} (h : pa_ G u tg pa Ps) (h1 : pa_1 G u a b d f g p) (t1 : tg a = 2000 + 3 * Ps.length) (t2 : tg b = 2001 + 3 * Ps.length) (t3 : tg d = 2002 + 3 * Ps.length) : pa_ G u tg (pa ++ [a]) (Ps ++ [p]) := by
  refine ⟨by rw [List.length_append, List.length_append, h.1]; rfl, fun i p2 hi => ?_⟩
  obtain ⟨a2, g1, b2, d2, f2, gg2, g2⟩ := app_get (P := fun i a p => ∃ (b d : Nat) (f g : Nat → Int32), pa_1 G u a b d f g p ∧ tg a = 2000 + 3 * i ∧ tg b = 2001 + 3 * i ∧ tg d = 2002 + 3 * i) h.1 (fun i p hi => by obtain ⟨a, b, d, f, g, q1, q2⟩ := h.2 i p hi; exact ⟨a, q1, b, d, f, g, q2⟩) ⟨b, d, f, g, h1, t1, t2, t3⟩ i p2 hi
  exact ⟨a2, b2, d2, f2, gg2, g1, g2⟩
theorem ta_push {G : ev_G} {u : wd_M} {tg : Nat → Nat} {ta : List Nat} {Ts : List hy_T} {a b : Nat} {f : Nat → Int32} {t : hy_T} (h : ta_ G u tg ta Ts) (h1 : ta_1 G u a b f t) (t1 : tg a = 10000 + 2 * a) (t2 : tg b = 10001 + 2 * a) (hn : a ∉ ta) : ta_ G u tg (ta ++ [a]) (Ts ++ [t]) := by
  refine ⟨by rw [List.length_append, List.length_append, h.1]; rfl, fun i j c hi hj => ?_, fun i t3 hi => ?_⟩
  · have key : ∀ k, (ta ++ [a])[k]? = some c → (ta[k]? = some c ∧ c ≠ a) ∨ (k = ta.length ∧ c = a) := fun k hk => by
      by_cases hl : k < ta.length
      · rw [List.getElem?_append_left hl] at hk
        exact Or.inl ⟨hk, fun q => hn (by rw [← q]; exact List.mem_of_getElem? hk)⟩
      · rw [List.getElem?_append_right (by omega)] at hk
        have h1 : k - ta.length < 1 := (List.getElem?_eq_some_iff.mp hk).1
        have h2 : k = ta.length := by omega
        subst h2
        rw [Nat.sub_self] at hk
        cases hk
        exact Or.inr ⟨rfl, rfl⟩
    rcases key i hi with ⟨q1, q2⟩ | ⟨q1, q2⟩ <;> rcases key j hj with ⟨q3, q4⟩ | ⟨q3, q4⟩
    · exact h.2.1 i j c q1 q3
    · exact absurd q4 q2
    · exact absurd q2 q4
    · omega
  · obtain ⟨a2, g1, b2, f2, g2⟩ := app_get (P := fun i a t => ∃ (b : Nat) (f : Nat → Int32), ta_1 G u a b f t ∧ tg a = 10000 + 2 * a ∧ tg b = 10001 + 2 * a) h.1 (fun i t hi => by obtain ⟨a, b, f, q1, q2⟩ := h.2.2 i t hi; exact ⟨a, q1, b, f, q2⟩) ⟨b, f, h1, t1, t2⟩ i t3 hi
    exact ⟨a2, b2, f2, g1, g2⟩

set_option maxHeartbeats 4000000 in
set_option maxRecDepth 100000 in
/-- Pa_init -/
theorem c_Pa_init (l : Launch) (G : ev_G) (w : wd_M) (sz : Nat) (a b d : Nat) (x y : Int32) (ha : w a = some (.inr (2, [.int 0, .null, .null]))) : ct_v l y_Pa_init b_Pa_init 4 none (rm_ 1 0 0) G w sz [.ref a, .int x, .ref b, .ref d] (fun u => u = va_up w a (some (.inr (2, [.int x, .ref b, .ref d])))) := by
  refine ct_enter (by decide +kernel) (Nat.le_of_ble_eq_true rfl) ?_
  intro p_ e_ s m below meth c_ hsz S hr hlocks hname hE hW ls hl
  have S : CallFix p_ m c_ b_Pa_init 4 s _ lw_good "HyphenRows$Pattern" := S
  have hx := S.1
  have hb := S.2.1
  have hK := hE.1
  have hl : lv_has ls 4 [(0, .ref a), (1, .int x), (2, .ref b), (3, .ref d)] := hl
  refine lv_aload_n hx hb d_Pa_init_0 rfl (lv_at hl 0 rfl) ?_
  refine W.objInit hx hb S.2.2.2.1 (S.2.2.2.2 _ k_Pa_1) (S.2.2.2.2 _ ki_Oj_init) (S.2.2.2.2 _ kc_Oj_init) rfl (by rw [S.2.2.1]; exact hl.1) rfl d_Pa_init_1 (Nat.le_of_ble_eq_true rfl) (Nat.le_of_ble_eq_true rfl) ?_
  refine W.eq (g2 := F0 m 4 ls []) rfl ?_
  refine lv_aload_n hx hb d_Pa_init_4 rfl (lv_at hl 0 rfl) ?_
  refine lv_iload_n hx hb d_Pa_init_5 rfl (lv_at hl 1 rfl) ?_
  refine wd_putF S i_Pa t_Pa t_Pa_ok n_Pa hK hW ha rfl 0 (by decide) k_Pa_7 rfl rfl hname rfl rfl rfl (Nat.le_of_ble_eq_true rfl) d_Pa_init_6 (fun H locs w_1 ew_1 hW => ?_)
  have ha : w_1 a = some (.inr (2, [.int x, .null, .null])) := wd_here ew_1
  refine lv_aload_n hx hb d_Pa_init_9 rfl (lv_at hl 0 rfl) ?_
  refine lv_aload_n hx hb d_Pa_init_10 rfl (lv_at hl 2 rfl) ?_
  refine wd_putF S i_Pa t_Pa t_Pa_ok n_Pa hK hW ha rfl 1 (by decide) k_Pa_13 rfl rfl hname rfl rfl rfl (Nat.le_of_ble_eq_true rfl) d_Pa_init_11 (fun H locs w_2 ew_2 hW => ?_)
  have ha : w_2 a = some (.inr (2, [.int x, .ref b, .null])) := wd_here ew_2
  refine lv_aload_n hx hb d_Pa_init_14 rfl (lv_at hl 0 rfl) ?_
  refine lv_aload_n hx hb d_Pa_init_15 rfl (lv_at hl 3 rfl) ?_
  refine wd_putF S i_Pa t_Pa t_Pa_ok n_Pa hK hW ha rfl 2 (by decide) k_Pa_17 rfl rfl hname rfl rfl rfl (Nat.le_of_ble_eq_true rfl) d_Pa_init_16 (fun H locs w_3 ew_3 hW => ?_)
  have ha : w_3 a = some (.inr (2, [.int x, .ref b, .ref d])) := wd_here ew_3
  exact ct_vret S hr hlocks hW (by rw [ew_3, ew_2, ew_1, bx_uu, bx_uu] <;> rfl) (Nat.le_refl _) (Nat.le_refl _) d_Pa_init_19

set_option maxHeartbeats 4000000 in
set_option maxRecDepth 100000 in
/-- To_init -/
theorem c_To_init (l : Launch) (G : ev_G) (w : wd_M) (sz : Nat) (a b d : Nat) (x y : Int32) (ha : w a = some (.inr (3, [.int 0, .null, .int 0]))) : ct_v l y_To_init b_To_init 4 none (rm_ 1 0 0) G w sz [.ref a, .int x, .ref b, .int y] (fun u => u = va_up w a (some (.inr (3, [.int x, .ref b, .int y])))) := by
  refine ct_enter (by decide +kernel) (Nat.le_of_ble_eq_true rfl) ?_
  intro p_ e_ s m below meth c_ hsz S hr hlocks hname hE hW ls hl
  have S : CallFix p_ m c_ b_To_init 4 s _ lw_good "HyphenRows$ToldWord" := S
  have hx := S.1
  have hb := S.2.1
  have hK := hE.1
  have hl : lv_has ls 4 [(0, .ref a), (1, .int x), (2, .ref b), (3, .int y)] := hl
  refine lv_aload_n hx hb d_To_init_0 rfl (lv_at hl 0 rfl) ?_
  refine W.objInit hx hb S.2.2.2.1 (S.2.2.2.2 _ k_To_1) (S.2.2.2.2 _ ki_Oj_init) (S.2.2.2.2 _ kc_Oj_init) rfl (by rw [S.2.2.1]; exact hl.1) rfl d_To_init_1 (Nat.le_of_ble_eq_true rfl) (Nat.le_of_ble_eq_true rfl) ?_
  refine W.eq (g2 := F0 m 4 ls []) rfl ?_
  refine lv_aload_n hx hb d_To_init_4 rfl (lv_at hl 0 rfl) ?_
  refine lv_iload_n hx hb d_To_init_5 rfl (lv_at hl 1 rfl) ?_
  refine wd_putF S i_To t_To t_To_ok n_To hK hW ha rfl 0 (by decide) k_To_7 rfl rfl hname rfl rfl rfl (Nat.le_of_ble_eq_true rfl) d_To_init_6 (fun H locs w_1 ew_1 hW => ?_)
  have ha : w_1 a = some (.inr (3, [.int x, .null, .int 0])) := wd_here ew_1
  refine lv_aload_n hx hb d_To_init_9 rfl (lv_at hl 0 rfl) ?_
  refine lv_aload_n hx hb d_To_init_10 rfl (lv_at hl 2 rfl) ?_
  refine wd_putF S i_To t_To t_To_ok n_To hK hW ha rfl 1 (by decide) k_To_13 rfl rfl hname rfl rfl rfl (Nat.le_of_ble_eq_true rfl) d_To_init_11 (fun H locs w_2 ew_2 hW => ?_)
  have ha : w_2 a = some (.inr (3, [.int x, .ref b, .int 0])) := wd_here ew_2
  refine lv_aload_n hx hb d_To_init_14 rfl (lv_at hl 0 rfl) ?_
  refine lv_iload_n hx hb d_To_init_15 rfl (lv_at hl 3 rfl) ?_
  refine wd_put S i_To t_To t_To_ok n_To hK hW ha rfl 2 (by decide) k_To_17 rfl rfl rfl rfl (Nat.le_of_ble_eq_true rfl) d_To_init_16 (fun H locs w_3 ew_3 hW => ?_)
  have ha : w_3 a = some (.inr (3, [.int x, .ref b, .int y])) := wd_here ew_3
  exact ct_vret S hr hlocks hW (by rw [ew_3, ew_2, ew_1, bx_uu, bx_uu] <;> rfl) (Nat.le_refl _) (Nat.le_refl _) d_To_init_19

set_option maxHeartbeats 4000000 in
set_option maxRecDepth 100000 in
/-- Language() -/
theorem c_La_init (l : Launch) (G : ev_G) (w : wd_M) (sz : Nat) (a : Nat) (ha : w a = some (.inr (1, [.null, .null, .int 0, .int 0, .int 0]))) : ct_v l y_La_init b_La_init 1 none (rm_ 1 2 512) G w sz [.ref a] (fun u => ∃ b z : Nat, w b = none ∧ w z = none ∧ b ≠ z ∧ u b = some (.inl (G.2.1 0, 256, .inl (fun _ => 0))) ∧ u z = some (.inl (G.2.1 1, 256, .inl (fun _ => 0))) ∧ u a = some (.inr (1, [.ref b, .ref z, .int 2, .int 3, .int 0])) ∧ ∀ x, x ≠ a → x ≠ b → x ≠ z → u x = w x) := by
  refine ct_enter (by decide +kernel) (Nat.le_of_ble_eq_true rfl) ?_
  intro p_ e_ s m below meth c_ hsz S hr hlocks hname hE hW ls hl
  have S : CallFix p_ m c_ b_La_init 1 s _ lw_good "HyphenRows$Language" := S
  have hx := S.1
  have hb := S.2.1
  have hK := hE.1
  have hl : lv_has ls 1 [(0, .ref a)] := hl
  have ha0 := ha
  refine lv_aload_n hx hb d_La_init_0 rfl (lv_at hl 0 rfl) ?_
  refine W.objInit hx hb S.2.2.2.1 (S.2.2.2.2 _ k_La_3) (S.2.2.2.2 _ ki_Oj_init) (S.2.2.2.2 _ kc_Oj_init) rfl (by rw [S.2.2.1]; exact hl.1) rfl d_La_init_1 (Nat.le_of_ble_eq_true rfl) (Nat.le_of_ble_eq_true rfl) ?_
  refine W.eq (g2 := F0 m 4 ls []) rfl ?_
  refine lv_aload_n hx hb d_La_init_4 rfl (lv_at hl 0 rfl) ?_
  refine lv_sipush (v := 256) hx hb d_La_init_5 (by decide) ?_
  refine wd_newa S (atype := .int) ka_int rfl hK hW 0 rfl (n := 256) (N' := 256) (a0 := (256, .inl (fun _ => 0))) (fun _ => rfl) (by decide) (by decide) (by decide) (Nat.le_of_ble_eq_true rfl) (Nat.le_of_ble_eq_true rfl) d_La_init_8 (fun bb H hbb w_1 ew_1 hW => ?_)
  have ha := wd_keep ew_1 (wd_neN ha hbb) ha
  have cbb : w_1 bb = some (.inl (G.2.1 0, 256, .inl (fun _ => 0))) := wd_here ew_1
  refine wd_putF S i_La t_La t_La_ok n_La hK hW ha rfl 0 (by decide) k_La_9 rfl rfl hname rfl rfl rfl (Nat.le_of_ble_eq_true rfl) d_La_init_10 (fun H locs w_2 ew_2 hW => ?_)
  have cbb := wd_keep ew_2 (wd_ne cbb ha (by simp)) cbb
  have ha : w_2 a = some (.inr (1, [.ref bb, .null, .int 0, .int 0, .int 0])) := wd_here ew_2
  refine lv_aload_n hx hb d_La_init_13 rfl (lv_at hl 0 rfl) ?_
  refine lv_sipush (v := 256) hx hb d_La_init_14 (by decide) ?_
  have cb0 := cbb
  have ha1 := ha
  refine wd_newa S (atype := .boolean) ka_boolean rfl hK hW 1 rfl (n := 256) (N' := 256) (a0 := (256, .inl (fun _ => 0))) (fun _ => rfl) (by decide) (by decide) (by decide) (Nat.le_of_ble_eq_true rfl) (Nat.le_of_ble_eq_true rfl) d_La_init_17 (fun zz H hzz w_3 ew_3 hW => ?_)
  have ha := wd_keep ew_3 (wd_neN ha hzz) ha
  have cbb := wd_keep ew_3 (wd_neN cbb hzz) cbb
  have czz : w_3 zz = some (.inl (G.2.1 1, 256, .inl (fun _ => 0))) := wd_here ew_3
  have hzb : bb ≠ zz := wd_neN cb0 hzz
  have hza : a ≠ zz := wd_neN ha1 hzz
  have hz0 : w zz = none := by have h1 := hzz; rw [ew_2, va_up_ne _ _ hza.symm, ew_1, va_up_ne _ _ hzb.symm] at h1; exact h1
  refine wd_putF S i_La t_La t_La_ok n_La hK hW ha rfl 1 (by decide) k_La_15 rfl rfl hname rfl rfl rfl (Nat.le_of_ble_eq_true rfl) d_La_init_19 (fun H locs w_4 ew_4 hW => ?_)
  have cbb := wd_keep ew_4 (wd_ne cbb ha (by simp)) cbb
  have czz := wd_keep ew_4 (wd_ne czz ha (by simp)) czz
  have ha : w_4 a = some (.inr (1, [.ref bb, .ref zz, .int 0, .int 0, .int 0])) := wd_here ew_4
  refine lv_aload_n hx hb d_La_init_22 rfl (lv_at hl 0 rfl) ?_
  refine lv_iconst (v := 2) hx hb d_La_init_23 (by decide) ?_
  refine wd_put S i_La t_La t_La_ok n_La hK hW ha rfl 2 (by decide) k_La_19 rfl rfl rfl rfl (Nat.le_of_ble_eq_true rfl) d_La_init_24 (fun H locs w_5 ew_5 hW => ?_)
  have cbb := wd_keep ew_5 (wd_ne cbb ha (by simp)) cbb
  have czz := wd_keep ew_5 (wd_ne czz ha (by simp)) czz
  have ha : w_5 a = some (.inr (1, [.ref bb, .ref zz, .int 2, .int 0, .int 0])) := wd_here ew_5
  refine lv_aload_n hx hb d_La_init_27 rfl (lv_at hl 0 rfl) ?_
  refine lv_iconst (v := 3) hx hb d_La_init_28 (by decide) ?_
  refine wd_put S i_La t_La t_La_ok n_La hK hW ha rfl 3 (by decide) k_La_23 rfl rfl rfl rfl (Nat.le_of_ble_eq_true rfl) d_La_init_29 (fun H locs w_6 ew_6 hW => ?_)
  have cbb := wd_keep ew_6 (wd_ne cbb ha (by simp)) cbb
  have czz := wd_keep ew_6 (wd_ne czz ha (by simp)) czz
  have ha : w_6 a = some (.inr (1, [.ref bb, .ref zz, .int 2, .int 3, .int 0])) := wd_here ew_6
  refine lv_aload_n hx hb d_La_init_32 rfl (lv_at hl 0 rfl) ?_
  refine lv_iconst (v := 0) hx hb d_La_init_33 (by decide) ?_
  refine wd_put S i_La t_La t_La_ok n_La hK hW ha rfl 4 (by decide) k_La_26 rfl rfl rfl rfl (Nat.le_of_ble_eq_true rfl) d_La_init_34 (fun H locs w_7 ew_7 hW => ?_)
  have cbb := wd_keep ew_7 (wd_ne cbb ha (by simp)) cbb
  have czz := wd_keep ew_7 (wd_ne czz ha (by simp)) czz
  have ha : w_7 a = some (.inr (1, [.ref bb, .ref zz, .int 2, .int 3, .int 0])) := wd_here ew_7
  exact ct_vret S hr hlocks hW (⟨bb, zz, hbb, hz0, hzb, cbb, czz, ha, fun x h1 h2 h3 => by rw [ew_7, ew_6, ew_5, ew_4, ew_3, ew_2, ew_1, va_up_ne _ _ h1, va_up_ne _ _ h1, va_up_ne _ _ h1, va_up_ne _ _ h1, va_up_ne _ _ h3, va_up_ne _ _ h1, va_up_ne _ _ h2]⟩) (Nat.le_refl _) (Nat.le_refl _) d_La_init_37

theorem tg_e {tg : Nat → Nat} {w : wd_M} {y e t : Nat} (_ : w y ≠ none) (h : y = e → tg e = t) : va_up tg e t y = tg y := by
  by_cases h9 : y = e
  · rw [h9, va_up_self]
    exact (h h9).symm
  · rw [va_up_ne _ _ h9]
theorem tg_E {u : wd_M} {tg : Nat → Nat} {E : Nat → Nat} {i j e : Nat} (hi : i < 3) (hn : u (if i = j then e else E i) ≠ none) (te : tg e = 11 + j) (kE : ∀ i, i < 3 → i ≠ j → u (E i) ≠ none → tg (E i) = 11 + i) : tg (if i = j then e else E i) = 11 + i := by
  by_cases h : i = j
  · rw [if_pos h, te, h]
  · rw [if_neg h] at hn ⊢
    exact kE i hi h hn

set_option maxHeartbeats 4000000 in
set_option maxRecDepth 100000 in
/-- language -/
theorem c_HR_language (l : Launch) (G : ev_G) (w : wd_M) (sz : Nat) (tg : Nat → Nat) (r : Nat) (Ls : List hy_L) (Ps : List hy_P) (Ts : List hy_T) (ml md wd : List Int32) (pl : List Nat) (h : hr_ G w tg r Ls Ps Ts ml md wd pl) (hwf : hy_wf Ls Ps Ts ml md wd pl) : ct_i l y_HR_language b_HR_language 1 (some FieldType.int) (rm_ 7 4 900) G w sz [.ref r] (hq_ G w tg r (sp_language (Ls, Ps, Ts, ml, md, wd, pl))) := by
  refine ct_enter (by decide +kernel) (Nat.le_of_ble_eq_true rfl) ?_
  intro p_ e_ s m below meth c_ hsz S hr hlocks hname hE hW ls hl
  have S : CallFix p_ m c_ b_HR_language 1 s _ lw_good "HyphenRows" := S
  have hx := S.1
  have hb := S.2.1
  have hK := hE.1
  have hl : lv_has ls 1 [(0, .ref r)] := hl
  obtain ⟨B, E, F, la, pa, ta, hc, hg, hal, hla, hpa, hta, hml, hmd, hwd, hpl⟩ := id h
  have hs : hs_ G w tg B E la pa ta Ls Ps Ts := ⟨hal, hla, hpa, hta⟩
  obtain ⟨hr0, a3, a4, a5, a6, a7, a8⟩ := id hc
  obtain ⟨wL, wP, wT, wm, wml, wwd, wpl, wtot, wmx, wdx, wws, wplx, wlg, wps, wts⟩ := id hwf
  have hB3 : ∀ i, i < 3 → tg (B i) = 2 + i := fun i hi => hg.2 i (by omega)
  have hkp : kp_ w w tg (fun t => 500 ≤ t ∧ t < 600) := kp_rf
  obtain ⟨mo0, haL, he0⟩ := id hal.1
  refine lv_aload_n hx hb d_HR_language_0 rfl (lv_at hl 0 rfl) ?_
  refine wd_get S i_HR hK hW hr0 rfl 0 (by decide) k_HR_10 rfl rfl d_HR_language_1 ?_
  refine ct_goi hW (ct_runV (As := []) (rest := []) (q := (R_AL, F_AL, 3)) S hE hW (c_AL_size l G _ _ (B 0) (E 0) (nI la.length) mo0 haL) haL rfl kc_AL_size kz_AL k_HR_54 ki_AL_size kv_AL_size kd_AL_size ⟨Nat.le_of_ble_eq_true rfl, Nat.le_of_ble_eq_true rfl⟩ hl.1 (Nat.le_of_ble_eq_true rfl) d_HR_language_4 ⟨Nat.le_of_ble_eq_true rfl, Nat.le_of_ble_eq_true rfl⟩) (fun v_3 u_1 H locs hp_2 hW => ?_)
  obtain ⟨hv, hu_4⟩ := hp_2
  rw [hu_4] at hW
  rw [hv]
  refine lv_iconst (v := 4) hx hb d_HR_language_7 (by decide) ?_
  refine lv_icmp_lt (tgt := 14) hx hb d_HR_language_8 (by decide) (fun h8 => ?_) (fun h8 => ?_)
  · have hlt : Ls.length < 4 := by have h9 := (nI_ltI (a := la.length) (b := 4) (by rw [hla.1]; omega) (by omega)).mp h8; rw [hla.1] at h9; exact h9
    refine lv_aload_n hx hb d_HR_language_14 rfl (lv_at hl 0 rfl) ?_
    refine wd_get S i_HR hK hW hr0 rfl 0 (by decide) k_HR_10 rfl rfl d_HR_language_15 ?_
    refine wd_new S i_La t_La t_La_ok k_HR_58 kt_La kz_La hK hW (ci := 1) rfl (fs := [.null, .null, .int 0, .int 0, .int 0]) (fun j hj => by rcases (show j = 0 ∨ j = 1 ∨ j = 2 ∨ j = 3 ∨ j = 4 by omega) with rfl | rfl | rfl | rfl | rfl <;> rfl) (Nat.le_of_ble_eq_true rfl) (Nat.le_of_ble_eq_true rfl) d_HR_language_18 (fun q H hq w_5 ew_5 hW => ?_)
    have cq : w_5 q = some (.inr (1, [.null, .null, .int 0, .int 0, .int 0])) := wd_here ew_5
    refine lv_dup hx hb d_HR_language_21 rfl ?_
    refine ct_gov hW (ct_runIN (As := []) (rest := [.ref q, .ref (B 0)]) S hE hW (c_La_init l G _ _ q cq) kc_La_init kz_La hE.2.1.1 ki_La_init rfl kd_La_init ⟨Nat.le_of_ble_eq_true rfl, Nat.le_of_ble_eq_true rfl⟩ hl.1 (Nat.le_of_ble_eq_true rfl) d_HR_language_22 ⟨Nat.le_of_ble_eq_true rfl, Nat.le_of_ble_eq_true rfl⟩) (fun u_6 H locs hp_7 hW => ?_)
    obtain ⟨b, z, hb0, hz0, hbz, cb, cz, cq, hku⟩ := hp_7
    have hqb : q ≠ b := fun y => by rw [← y, ew_5, va_up_self] at hb0; cases hb0
    have hqz : q ≠ z := fun y => by rw [← y, ew_5, va_up_self] at hz0; cases hz0
    rw [ew_5, va_up_ne _ _ hqb.symm] at hb0
    rw [ew_5, va_up_ne _ _ hqz.symm] at hz0
    have hk1 : ∀ y, w y ≠ none → u_6 y = w y := fun y hy => by rw [hku y (fun h => hy (by rw [h]; exact hq)) (fun h => hy (by rw [h]; exact hb0)) (fun h => hy (by rw [h]; exact hz0)), ew_5, va_up_ne _ _ (fun h => hy (by rw [h]; exact hq))]
    have hal0 : al_ G u_6 (B 0) (E 0) la := al_keep hal.1 (hk1 _ (wd_some haL)) (fun h => hk1 _ h)
    have hob : ∀ y ∈ la, ob_ u_6 y := fun y hy => by obtain ⟨ci, fs, g1, g2⟩ := la_obs hla y hy; exact ⟨ci, fs, (hk1 _ (wd_some g1)).trans g1, g2⟩
    have haL : u_6 (B 0) = some (.inr (4, [.ref (E 0), .int (nI la.length), .int mo0])) := (hk1 _ (wd_some haL)).trans haL
    refine ct_goi hW (ct_runV (As := [.ref q]) (rest := []) (q := (R_AL, F_AL, 3)) S hE hW (c_AL_add1 l G _ _ (B 0) (E 0) q la hal0 (by rw [hla.1]; omega) hob ⟨1, _, cq, Or.inl rfl⟩) haL rfl kc_AL_add1 kz_AL k_HR_61 ki_AL_add1 kv_AL_add1 kd_AL_add1 ⟨Nat.le_of_ble_eq_true rfl, Nat.le_of_ble_eq_true rfl⟩ hl.1 (Nat.le_of_ble_eq_true rfl) d_HR_language_25 ⟨Nat.le_of_ble_eq_true rfl, Nat.le_of_ble_eq_true rfl⟩) (fun v_11 u_9 H locs hp_10 hW => ?_)
    obtain ⟨hv1, e2, he2, hal2, hne2, hk2⟩ := hp_10
    have heq : w e2 ≠ none → e2 = E 0 := fun h => he2.elim id (fun h2 => absurd ((hk1 e2 h).symm.trans h2).symm (Ne.symm h))
    have hk : ∀ y, w y ≠ none → tg y ≠ 2 + 0 → tg y ≠ 11 + 0 → u_9 y = w y := fun y hy h1 h2 => by rw [hk2 y (fun h => h1 (by rw [h]; exact hg.2 0 (by omega))) (fun h => h2 (by rw [h, heq (by rw [← h]; exact hy)]; exact hal.2.2.2 0 (by omega) (by rw [← heq (by rw [← h]; exact hy), ← h]; exact hy))), hk1 y hy]
    have hE0 : E 0 = G.2.2 0 ∨ w (E 0) ≠ none := hal.1.choose_spec.2.elim (fun h => Or.inl h.1) (fun h => by obtain ⟨cap, f, h1, -⟩ := h; exact Or.inr (wd_some h1))
    have hz9 := wd_z0 hE hW
    have nn : ∀ y, w y = none → u_6 y ≠ none → y ≠ e2 := fun y h1 h2 h3 => he2.elim (fun h => hE0.elim (fun k => hne2 (by rw [h, k]; exact hz9)) (fun k => k (by rw [← h, ← h3]; exact h1))) (fun h => h2 (by rw [h3]; exact h))
    have nq := nn q hq (wd_some cq)
    have nb := nn b hb0 (wd_some cb)
    have nz := nn z hz0 (wd_some cz)
    obtain ⟨tg2, htg⟩ : ∃ f : Nat → Nat, f = va_up (va_up (va_up (va_up tg e2 11) q (1000 + 3 * Ls.length)) b (1001 + 3 * Ls.length)) z (1002 + 3 * Ls.length) := ⟨_, rfl⟩
    have hx2 : ex_ w tg tg2 := fun y hy => by rw [htg, va_up_ne _ _ (fun h => hy (by rw [h]; exact hz0)), va_up_ne _ _ (fun h => hy (by rw [h]; exact hb0)), va_up_ne _ _ (fun h => hy (by rw [h]; exact hq))]; exact tg_e hy (fun h9 => by rw [heq (by rw [← h9]; exact hy)]; exact hal.2.2.2 0 (by omega) (by rw [← heq (by rw [← h9]; exact hy), ← h9]; exact hy))
    obtain ⟨hcF, hgF, -, k1, k2, kE, kl, kp, kt⟩ := hs_gr 0 hs hc hg wL wP (by omega) hk hx2 hz9
    have te : tg2 e2 = 11 := by rw [htg, va_up_ne _ _ (Ne.symm nz), va_up_ne _ _ (Ne.symm nb), va_up_ne _ _ (Ne.symm nq), va_up_self]
    have tq : tg2 q = 1000 + 3 * Ls.length := by rw [htg, va_up_ne _ _ hqz, va_up_ne _ _ hqb, va_up_self]
    have tb : tg2 b = 1001 + 3 * Ls.length := by rw [htg, va_up_ne _ _ hbz, va_up_self]
    have tz : tg2 z = 1002 + 3 * Ls.length := by rw [htg, va_up_self]
    have nB : ∀ y, w y = none → y ≠ B 0 := fun y h1 h2 => by rw [h2] at h1; obtain ⟨mo, h9, -⟩ := hal.1; rw [h9] at h1; cases h1
    have hla2 := la_push (lg := ((fun _ => 0), (fun _ => 0), 2, 3, 0)) kl ⟨(hk2 q (nB q hq) nq).trans cq, (hk2 b (nB b hb0) nb).trans cb, (hk2 z (nB z hz0) nz).trans cz⟩ tq tb tz
    have haL := hal2.choose_spec.1
    have hr0 := hcF.1
    refine lv_pop hx hb d_HR_language_28 rfl ?_
    refine lv_aload_n hx hb d_HR_language_29 rfl (lv_at hl 0 rfl) ?_
    refine wd_get S i_HR hK hW hr0 rfl 0 (by decide) k_HR_10 rfl rfl d_HR_language_30 ?_
    refine ct_goi hW (ct_runV (As := []) (rest := []) (q := (R_AL, F_AL, 3)) S hE hW (c_AL_size l G _ _ (B 0) e2 (nI (la ++ [q]).length) _ haL) haL rfl kc_AL_size kz_AL k_HR_54 ki_AL_size kv_AL_size kd_AL_size ⟨Nat.le_of_ble_eq_true rfl, Nat.le_of_ble_eq_true rfl⟩ hl.1 (Nat.le_of_ble_eq_true rfl) d_HR_language_33 ⟨Nat.le_of_ble_eq_true rfl, Nat.le_of_ble_eq_true rfl⟩) (fun v_14 u_12 H locs hp_13 hW => ?_)
    obtain ⟨hv3, hu_15⟩ := hp_13
    rw [hu_15] at hW
    rw [hv3, List.length_append, show nI (la.length + [q].length) = nI (la.length + 1) from rfl]
    refine lv_iconst (v := 1) hx hb d_HR_language_36 (by decide) ?_
    refine lv_isub hx hb d_HR_language_37 ?_
    rw [nI_pred, hla.1]
    exact ct_iret S hr rfl hlocks hW (⟨_, tg2, Or.inr ⟨hlt, rfl, rfl⟩, ⟨B, fun k => if k = 0 then e2 else E k, F, la ++ [q], pa, ta, hcF, hgF, ⟨hal2, k1 (by omega), k2 (by omega), fun i hi hn => tg_E hi hn te kE⟩, hla2, kp, kt, hml, hmd, hwd, hpl⟩, hx2, fun y hy hq9 => hk y hy (by have hq9 : 500 ≤ tg y ∧ tg y < 600 := hq9; omega) (by have hq9 : 500 ≤ tg y ∧ tg y < 600 := hq9; omega)⟩) (Nat.le_of_ble_eq_true rfl) (Nat.le_of_ble_eq_true rfl) d_HR_language_38
  · refine lv_bipush (v := -2) hx hb d_HR_language_11 (by decide) ?_
    exact ct_iret S hr rfl hlocks hW (⟨_, tg, Or.inl ⟨fun q => h8 (by rw [hla.1]; exact nI_lt (b := 4) q (by omega)), rfl, rfl⟩, h, ex_rf, kp_rf⟩) (Nat.le_of_ble_eq_true rfl) (Nat.le_of_ble_eq_true rfl) d_HR_language_13
end
section
/-! THE CLASS: addPattern, pattern. -/

/-- what stays, over two worlds with other tags -/
theorem kp_t2 {w w1 w2 : wd_M} {tg tg2 : Nat → Nat} {P : Nat → Prop} (h1 : kp_ w w1 tg P) (he : ex_ w tg tg2) (h2 : kp_ w1 w2 tg2 P) : kp_ w w2 tg P := fun x hx hp => by
  rw [h2 x (by rw [h1 x hx hp]; exact hx) (by rw [he x hx]; exact hp), h1 x hx hp]

set_option maxHeartbeats 4000000 in
set_option maxRecDepth 100000 in
/-- addPattern(lx, n) -/
theorem c_HR_addPattern (l : Launch) (G : ev_G) (w : wd_M) (sz : Nat) (tg : Nat → Nat) (r lx : Nat) (B E : Nat → Nat) (F : Nat → Nat → Int32) (mn wn pn : Int32) (la pa ta : List Nat) (Ls : List hy_L) (Ps : List hy_P) (Ts : List hy_T) (ml md : List Int32) (hc : hr_c G w r B F (nI (hy_tot Ps)) mn wn pn) (hg : hr_g tg r B) (hs : hs_ G w tg B E la pa ta Ls Ps Ts) (wL : Ls.length ≤ 4) (wP : Ps.length ≤ 150) (wtot : hy_tot Ps ≤ 900) (hml : li_ ml (F 3)) (hmd : li_ md (F 4)) (hmn : md.length = ml.length + 1) (wml : ml.length ≤ 12) (wm1 : 1 ≤ ml.length) : ct_i l y_HR_addPattern b_HR_addPattern 5 (some FieldType.int) (rm_ 7 4 400) G w sz [.ref r, .int (nI lx), .int (nI ml.length)] (fun v u => (v = -2 ∧ ¬ (Ps.length < 150 ∧ hy_tot Ps + ml.length ≤ 900) ∧ u = w) ∨ ((Ps.length < 150 ∧ hy_tot Ps + ml.length ≤ 900) ∧ v = nI Ps.length ∧ ∃ (tg2 E2 : Nat → Nat) (pa2 : List Nat), hr_c G u r B F (nI (hy_tot Ps + ml.length)) mn wn pn ∧ hr_g tg2 r B ∧ hs_ G u tg2 B E2 la pa2 ta Ls (Ps ++ [(lx, ml, md)]) Ts ∧ ex_ w tg tg2 ∧ kp_ w u tg (fun t => 500 ≤ t ∧ t < 600))) := by
  refine ct_enter (by decide +kernel) (Nat.le_of_ble_eq_true rfl) ?_
  intro p_ e_ s m below meth c_ hsz S hr hlocks hname hE hW ls hl
  have S : CallFix p_ m c_ b_HR_addPattern 5 s _ lw_good "HyphenRows" := S
  have hx := S.1
  have hb := S.2.1
  have hK := hE.1
  have hl : lv_has ls 5 [(0, .ref r), (1, .int (nI lx)), (2, .int (nI ml.length))] := hl
  obtain ⟨hr0, a3, a4, a5, a6, a7, a8⟩ := id hc
  have hB3 : ∀ i, i < 3 → tg (B i) = 2 + i := fun i hi => hg.2 i (by omega)
  have hpa := hs.2.2.1
  have hpl := hpa.1
  obtain ⟨mo1, haP, he1⟩ := id hs.1.2.1
  refine lv_aload_n hx hb d_HR_addPattern_0 rfl (lv_at hl 0 rfl) ?_
  refine wd_get S i_HR hK hW hr0 rfl 1 (by decide) k_HR_16 rfl rfl d_HR_addPattern_1 ?_
  refine ct_goi hW (ct_runV (As := []) (rest := []) (q := (R_AL, F_AL, 3)) S hE hW (c_AL_size l G _ _ (B 1) (E 1) (nI pa.length) mo1 haP) haP rfl kc_AL_size kz_AL k_HR_54 ki_AL_size kv_AL_size kd_AL_size ⟨Nat.le_of_ble_eq_true rfl, Nat.le_of_ble_eq_true rfl⟩ hl.1 (Nat.le_of_ble_eq_true rfl) d_HR_addPattern_4 ⟨Nat.le_of_ble_eq_true rfl, Nat.le_of_ble_eq_true rfl⟩) (fun v_3 u_1 H locs hp_2 hW => ?_)
  obtain ⟨hv, hu_4⟩ := hp_2
  rw [hu_4] at hW
  rw [hv]
  refine lv_sipush (v := 150) hx hb d_HR_addPattern_7 (by decide) ?_
  refine lv_icmp_ge (tgt := 25) hx hb d_HR_addPattern_10 (by decide) (fun h10 => ?_) (fun h10 => ?_)
  · refine lv_bipush (v := -2) hx hb d_HR_addPattern_25 (by decide) ?_
    exact ct_iret S hr rfl hlocks hW (Or.inl ⟨rfl, fun q => absurd q.1 (by have h9 := (nI_leI (a := 150) (b := pa.length) (by omega) (by omega)).mp h10; omega), rfl⟩) (Nat.le_of_ble_eq_true rfl) (Nat.le_of_ble_eq_true rfl) d_HR_addPattern_27
  · have hp150 : Ps.length < 150 := by have h9 : ¬ 150 ≤ pa.length := fun q => h10 (nI_le (a := 150) q (by omega)); omega
    refine lv_iload_n hx hb d_HR_addPattern_13 rfl (lv_at hl 2 rfl) ?_
    refine lv_sipush (v := 900) hx hb d_HR_addPattern_14 (by decide) ?_
    refine lv_aload_n hx hb d_HR_addPattern_17 rfl (lv_at hl 0 rfl) ?_
    refine wd_get S i_HR hK hW hr0 rfl 3 (by decide) k_HR_22 rfl rfl d_HR_addPattern_18 ?_
    refine lv_isub hx hb d_HR_addPattern_21 ?_
    rw [show (900 : Int32) - nI (hy_tot Ps) = nI (900 - hy_tot Ps) from pk_sub (a := 900) wtot]
    refine lv_icmp_le (tgt := 28) hx hb d_HR_addPattern_22 (by decide) (fun h22 => ?_) (fun h22 => ?_)
    · have h900 : hy_tot Ps + ml.length ≤ 900 := by have h9 := (nI_leI (a := ml.length) (b := 900 - hy_tot Ps) (by omega) (by omega)).mp h22; omega
      refine lv_aload_n hx hb d_HR_addPattern_28 rfl (lv_at hl 0 rfl) ?_
      refine wd_get S i_HR hK hW hr0 rfl 4 (by decide) k_HR_26 rfl rfl d_HR_addPattern_29 ?_
      refine lv_iload_n hx hb d_HR_addPattern_32 rfl (lv_at hl 2 rfl) ?_
      refine ct_goq hW (ct_runS (As := [.ref (B 3), .int (nI ml.length)]) (rest := []) S hE hW (c_Ar_copyOfI l G _ _ (B 3) 12 ml.length (F 3) a3 wml (by omega)) kc_Ar_copyOfI kz_Ar k_HR_165 ks_Ar_copyOfI kd_Ar_copyOfI ⟨Nat.le_of_ble_eq_true rfl, Nat.le_of_ble_eq_true rfl⟩ hl.1 (Nat.le_of_ble_eq_true rfl) d_HR_addPattern_33 ⟨Nat.le_of_ble_eq_true rfl, Nat.le_of_ble_eq_true rfl⟩) (fun v_7 u_5 H locs hp_6 hW => ?_)
      obtain ⟨b, fb, hvb, hb0, eb, hfb⟩ := hp_6
      rw [hvb]
      refine W.eq (g2 := F0 m 36 ls [.ref b]) rfl ?_
      have hr0 := wd_keep eb (wd_neN hr0 hb0) hr0
      have a4 := wd_keep eb (wd_neN a4 hb0) a4
      have cb := wd_here eb
      refine lv_astore_n (lv' := [(3, .ref b), (0, .ref r), (1, .int (nI lx)), (2, .int (nI ml.length))]) hx hb d_HR_addPattern_36 rfl hl (by decide) rfl (fun ls hl => ?_)
      refine lv_aload_n hx hb d_HR_addPattern_37 rfl (lv_at hl 1 rfl) ?_
      refine wd_get S i_HR hK hW hr0 rfl 5 (by decide) k_HR_30 rfl rfl d_HR_addPattern_38 ?_
      refine lv_iload_n hx hb d_HR_addPattern_41 rfl (lv_at hl 3 rfl) ?_
      refine lv_iconst (v := 1) hx hb d_HR_addPattern_42 (by decide) ?_
      refine lv_iadd hx hb d_HR_addPattern_43 ?_
      rw [nI_1]
      refine ct_goq hW (ct_runS (As := [.ref (B 4), .int (nI (ml.length + 1))]) (rest := []) S hE hW (c_Ar_copyOfI l G _ _ (B 4) 13 (ml.length + 1) (F 4) a4 (by omega) (by omega)) kc_Ar_copyOfI kz_Ar k_HR_165 ks_Ar_copyOfI kd_Ar_copyOfI ⟨Nat.le_of_ble_eq_true rfl, Nat.le_of_ble_eq_true rfl⟩ hl.1 (Nat.le_of_ble_eq_true rfl) d_HR_addPattern_44 ⟨Nat.le_of_ble_eq_true rfl, Nat.le_of_ble_eq_true rfl⟩) (fun v_10 u_8 H locs hp_9 hW => ?_)
      obtain ⟨d, fd, hvd, hd0, ed, hfd⟩ := hp_9
      rw [hvd]
      refine W.eq (g2 := F0 m 47 ls [.ref d]) rfl ?_
      have hbd : b ≠ d := wd_neN cb hd0
      rw [eb, va_up_ne _ _ hbd.symm] at hd0
      have hr0 := wd_keep ed (fun q => by rw [q] at hr0; rw [eb, va_up_ne _ _ hbd.symm, hd0] at hr0; cases hr0) hr0
      have cb := wd_keep ed hbd cb
      have cd := wd_here ed
      refine lv_astore (lv' := [(4, .ref d), (3, .ref b), (0, .ref r), (1, .int (nI lx)), (2, .int (nI ml.length))]) hx hb d_HR_addPattern_47 hl (by decide) rfl (fun ls hl => ?_)
      refine lv_aload_n hx hb d_HR_addPattern_49 rfl (lv_at hl 2 rfl) ?_
      refine wd_get S i_HR hK hW hr0 rfl 1 (by decide) k_HR_16 rfl rfl d_HR_addPattern_50 ?_
      refine wd_new S i_Pa t_Pa t_Pa_ok k_HR_109 kt_Pa kz_Pa hK hW (ci := 2) rfl (fs := [.int 0, .null, .null]) (fun j hj => by rcases (show j = 0 ∨ j = 1 ∨ j = 2 by omega) with rfl | rfl | rfl <;> rfl) (Nat.le_of_ble_eq_true rfl) (Nat.le_of_ble_eq_true rfl) d_HR_addPattern_53 (fun q H hq w_11 ew_11 hW => ?_)
      have cq : w_11 q = some (.inr (2, [.int 0, .null, .null])) := wd_here ew_11
      have hqb : b ≠ q := wd_neN cb hq
      have hqd : d ≠ q := wd_neN cd hq
      have cb := wd_keep ew_11 hqb cb
      have cd := wd_keep ew_11 hqd cd
      rw [ed, va_up_ne _ _ hqd.symm, eb, va_up_ne _ _ hqb.symm] at hq
      refine lv_dup hx hb d_HR_addPattern_56 rfl ?_
      refine lv_iload_n hx hb d_HR_addPattern_57 rfl (lv_at hl 3 rfl) ?_
      refine lv_aload_n hx hb d_HR_addPattern_58 rfl (lv_at hl 1 rfl) ?_
      refine lv_aload hx hb d_HR_addPattern_59 (lv_at hl 0 rfl) ?_
      refine ct_gov hW (ct_runI (As := [.int (nI lx), .ref b, .ref d]) (rest := [.ref q, .ref (B 1)]) S hE hW (c_Pa_init l G _ _ q b d (nI lx) 0 cq) kc_Pa_init kz_Pa k_HR_169 ki_Pa_init rfl kd_Pa_init ⟨Nat.le_of_ble_eq_true rfl, Nat.le_of_ble_eq_true rfl⟩ hl.1 (Nat.le_of_ble_eq_true rfl) d_HR_addPattern_61 ⟨Nat.le_of_ble_eq_true rfl, Nat.le_of_ble_eq_true rfl⟩) (fun u_12 H locs hp_13 hW => ?_)
      have cq := wd_here hp_13
      have cb := wd_keep hp_13 hqb cb
      have cd := wd_keep hp_13 hqd cd
      have hk1 : ∀ y, w y ≠ none → u_12 y = w y := fun y hy => by rw [hp_13, va_up_ne _ _ (fun h => hy (by rw [h]; exact hq)), ew_11, va_up_ne _ _ (fun h => hy (by rw [h]; exact hq)), ed, va_up_ne _ _ (fun h => hy (by rw [h]; exact hd0)), eb, va_up_ne _ _ (fun h => hy (by rw [h]; exact hb0))]
      have halj : al_ G u_12 (B 1) (E 1) pa := al_keep hs.1.2.1 (hk1 _ (wd_some hs.1.2.1.choose_spec.1)) (fun h => hk1 _ h)
      have hob : ∀ y ∈ pa, ob_ u_12 y := fun y hy => by obtain ⟨ci, fs, g1, g2⟩ := pa_obs hpa y hy; exact ⟨ci, fs, (hk1 _ (wd_some g1)).trans g1, g2⟩
      have haJ := halj.choose_spec.1
      refine ct_goi hW (ct_runV (As := [.ref q]) (rest := []) (q := (R_AL, F_AL, 3)) S hE hW (c_AL_add1 l G _ _ (B 1) (E 1) q pa halj (by omega) hob ⟨2, _, cq, by simp⟩) haJ rfl kc_AL_add1 kz_AL k_HR_61 ki_AL_add1 kv_AL_add1 kd_AL_add1 ⟨Nat.le_of_ble_eq_true rfl, Nat.le_of_ble_eq_true rfl⟩ hl.1 (Nat.le_of_ble_eq_true rfl) d_HR_addPattern_64 ⟨Nat.le_of_ble_eq_true rfl, Nat.le_of_ble_eq_true rfl⟩) (fun v_17 u_15 H locs hp_16 hW => ?_)
      obtain ⟨hv1, e2, he2, hal2, hne2, hk2⟩ := hp_16
      have heq : w e2 ≠ none → e2 = E 1 := fun h => he2.elim id (fun h2 => absurd ((hk1 e2 h).symm.trans h2).symm (Ne.symm h))
      have hEt : w (E 1) ≠ none → tg (E 1) = 11 + 1 := hs.1.2.2.2 1 (by omega)
      have hk : ∀ y, w y ≠ none → tg y ≠ 2 + 1 → tg y ≠ 11 + 1 → u_15 y = w y := fun y hy h1 h2 => by rw [hk2 y (fun h => h1 (by rw [h]; exact hg.2 1 (by omega))) (fun h => h2 (by rw [h, heq (by rw [← h]; exact hy)]; exact hEt (by rw [← heq (by rw [← h]; exact hy), ← h]; exact hy))), hk1 y hy]
      have hE0 : E 1 = G.2.2 0 ∨ w (E 1) ≠ none := hs.1.2.1.choose_spec.2.elim (fun h => Or.inl h.1) (fun h => by obtain ⟨cap, f, h1, -⟩ := h; exact Or.inr (wd_some h1))
      have hz9 := wd_z0 hE hW
      have nn : ∀ y, w y = none → u_12 y ≠ none → y ≠ e2 := fun y h1 h2 h3 => he2.elim (fun h => hE0.elim (fun k => hne2 (by rw [h, k]; exact hz9)) (fun k => k (by rw [← h, ← h3]; exact h1))) (fun h => h2 (by rw [h3]; exact h))
      have nq := nn q hq (wd_some cq)
      have nb := nn b hb0 (wd_some cb)
      have nd := nn d hd0 (wd_some cd)
      obtain ⟨tg2, htg⟩ : ∃ f : Nat → Nat, f = va_up (va_up (va_up (va_up tg e2 12) q (2000 + 3 * Ps.length)) b (2001 + 3 * Ps.length)) d (2002 + 3 * Ps.length) := ⟨_, rfl⟩
      have hx2 : ex_ w tg tg2 := fun y hy => by rw [htg, va_up_ne _ _ (fun h => hy (by rw [h]; exact hd0)), va_up_ne _ _ (fun h => hy (by rw [h]; exact hb0)), va_up_ne _ _ (fun h => hy (by rw [h]; exact hq))]; exact tg_e hy (fun h9 => by rw [heq (by rw [← h9]; exact hy)]; exact hEt (by rw [← heq (by rw [← h9]; exact hy), ← h9]; exact hy))
      obtain ⟨hcF, hgF, k0, k1, k2, kE, kl, kp, kt⟩ := hs_gr 1 hs hc hg wL wP (by omega) hk hx2 hz9
      have te : tg2 e2 = 11 + 1 := by rw [htg, va_up_ne _ _ (Ne.symm nd), va_up_ne _ _ (Ne.symm nb), va_up_ne _ _ (Ne.symm nq), va_up_self]
      have nB : ∀ y, w y = none → y ≠ B 1 := fun y h1 h2 => by rw [h2] at h1; obtain ⟨mo, h9, -⟩ := hs.1.2.1; rw [h9] at h1; cases h1
      have c2q := (hk2 q (nB q hq) nq).trans cq
      have c2b := (hk2 b (nB b hb0) nb).trans cb
      have c2d := (hk2 d (nB d hd0) nd).trans cd
      have tq : tg2 q = 2000 + 3 * Ps.length := by rw [htg, va_up_ne _ _ hqd.symm, va_up_ne _ _ hqb.symm, va_up_self]
      have tb : tg2 b = 2001 + 3 * Ps.length := by rw [htg, va_up_ne _ _ hbd, va_up_self]
      have td : tg2 d = 2002 + 3 * Ps.length := by rw [htg, va_up_self]
      have hpa2 := pa_push (p := (lx, ml, md)) (f := fb) (g := fd) kp ⟨c2q, c2b, c2d, li_take hml hfb, li_take hmd (fun i hi => hfd i (by have hi : i < md.length := hi; omega))⟩ tq tb td
      have hsF : hs_ G u_15 tg2 B (fun k => if k = 1 then e2 else E k) la (pa ++ [q]) ta Ls (Ps ++ [(lx, ml, md)]) Ts := ⟨⟨k0 (by omega), hal2, k2 (by omega), fun i hi hn => tg_E hi hn te kE⟩, kl, hpa2, kt⟩
      obtain ⟨hr0, a3, a4, a5, a6, a7, a8⟩ := id hcF
      refine lv_pop hx hb d_HR_addPattern_67 rfl ?_
      refine lv_aload_n hx hb d_HR_addPattern_68 rfl (lv_at hl 2 rfl) ?_
      refine lv_dup hx hb d_HR_addPattern_69 rfl ?_
      refine wd_get S i_HR hK hW hr0 rfl 3 (by decide) k_HR_22 rfl rfl d_HR_addPattern_70 ?_
      refine lv_iload_n hx hb d_HR_addPattern_73 rfl (lv_at hl 4 rfl) ?_
      refine lv_iadd hx hb d_HR_addPattern_74 ?_
      refine lv_topi (fun nt ent => ?_)
      rw [nI_add] at ent
      have hr9 := hr0
      refine wd_put S i_HR t_HR t_HR_ok n_HR hK hW hr0 rfl 3 (by decide) k_HR_22 rfl rfl rfl rfl (Nat.le_of_ble_eq_true rfl) d_HR_addPattern_75 (fun H locs w_18 ew_18 hW => ?_)
      have a3 := wd_keep ew_18 (wd_ne a3 hr0 (by simp)) a3
      have a4 := wd_keep ew_18 (wd_ne a4 hr0 (by simp)) a4
      have a5 := wd_keep ew_18 (wd_ne a5 hr0 (by simp)) a5
      have a6 := wd_keep ew_18 (wd_ne a6 hr0 (by simp)) a6
      have a7 := wd_keep ew_18 (wd_ne a7 hr0 (by simp)) a7
      have a8 := wd_keep ew_18 (wd_ne a8 hr0 (by simp)) a8
      have hr0 : w_18 r = some (.inr (0, [.ref (B 0), .ref (B 1), .ref (B 2), .int nt, .ref (B 3), .ref (B 4), .int mn, .ref (B 5), .int wn, .ref (B 6), .ref (B 7), .ref (B 8), .int pn])) := wd_here ew_18
      rw [ent] at hr0
      have hsF := hs_up hsF wL (by rw [List.length_append]; show Ps.length + 1 ≤ 150; omega) (fun i hi => hgF.2 i (by omega)) hr9 ew_18 (Or.inl hgF.1)
      have haJ := hsF.1.2.1.choose_spec.1
      refine lv_aload_n hx hb d_HR_addPattern_78 rfl (lv_at hl 2 rfl) ?_
      refine wd_get S i_HR hK hW hr0 rfl 1 (by decide) k_HR_16 rfl rfl d_HR_addPattern_79 ?_
      refine ct_goi hW (ct_runV (As := []) (rest := []) (q := (R_AL, F_AL, 3)) S hE hW (c_AL_size l G _ _ (B 1) e2 (nI (pa ++ [q]).length) _ haJ) haJ rfl kc_AL_size kz_AL k_HR_54 ki_AL_size kv_AL_size kd_AL_size ⟨Nat.le_of_ble_eq_true rfl, Nat.le_of_ble_eq_true rfl⟩ hl.1 (Nat.le_of_ble_eq_true rfl) d_HR_addPattern_82 ⟨Nat.le_of_ble_eq_true rfl, Nat.le_of_ble_eq_true rfl⟩) (fun v_21 u_19 H locs hp_20 hW => ?_)
      obtain ⟨hv3, hu_22⟩ := hp_20
      rw [hu_22] at hW
      rw [hv3, List.length_append, show nI (pa.length + [q].length) = nI (pa.length + 1) from rfl]
      refine lv_iconst (v := 1) hx hb d_HR_addPattern_85 (by decide) ?_
      refine lv_isub hx hb d_HR_addPattern_86 ?_
      rw [nI_pred, hpl]
      exact ct_iret S hr rfl hlocks hW (Or.inr ⟨⟨hp150, h900⟩, rfl, tg2, _, _, ⟨hr0, a3, a4, a5, a6, a7, a8⟩, hgF, hsF, hx2, kp_t2 (fun y hy hq9 => hk y hy (by have hq9 : 500 ≤ tg y ∧ tg y < 600 := hq9; omega) (by have hq9 : 500 ≤ tg y ∧ tg y < 600 := hq9; omega)) hx2 (up_kp ew_18 (by rw [hgF.1]; show ¬ (_ ∧ _); omega))⟩) (Nat.le_of_ble_eq_true rfl) (Nat.le_of_ble_eq_true rfl) d_HR_addPattern_87
    · refine lv_bipush (v := -2) hx hb d_HR_addPattern_25 (by decide) ?_
      exact ct_iret S hr rfl hlocks hW (Or.inl ⟨rfl, fun q => h22 (nI_le (by omega) (by omega)), rfl⟩) (Nat.le_of_ble_eq_true rfl) (Nat.le_of_ble_eq_true rfl) d_HR_addPattern_27

theorem pat_iff {ml : List Int32} {f : Nat → Int32} (h : li_ ml f) : ((∃ j, j < ml.length ∧ ¬ f j = 0) ∧ ∀ j, j < ml.length → f j = 0 → j = 0 ∨ j + 1 = ml.length) ↔ hy_pat ml := by
  have hg : ∀ j, (hj : j < ml.length) → ml[j]? = some (f j) := fun j hj => by rw [h j ml[j] (List.getElem?_eq_getElem hj)]; exact List.getElem?_eq_getElem hj
  constructor
  · rintro ⟨⟨j, hj, hz⟩, h2⟩
    refine ⟨⟨j, f j, hg j hj, hz⟩, fun i hi => ?_⟩
    have hl := (List.getElem?_eq_some_iff.mp hi).1
    exact h2 i hl (h i 0 hi)
  · rintro ⟨⟨j, x, hj, hz⟩, h2⟩
    have hl := (List.getElem?_eq_some_iff.mp hj).1
    refine ⟨⟨j, hl, by rw [h j x hj]; exact hz⟩, fun i hi h0 => h2 i ?_⟩
    rw [hg i hi, h0]
/-- one pattern has other digits now -/
theorem pa_upd {G : ev_G} {w u : wd_M} {tg : Nat → Nat} {pa : List Nat} {Ps : List hy_P} {i a b d : Nat} {f g : Nat → Int32} {p2 : hy_P} (h : pa_ G w tg pa Ps) (ha : pa[i]? = some a) (ta1 : tg a = 2000 + 3 * i) (tb : tg b = 2001 + 3 * i) (td : tg d = 2002 + 3 * i) (hk : ∀ x, w x ≠ none → tg x ≠ 2002 + 3 * i → u x = w x) (h1 : pa_1 G u a b d f g p2) : pa_ G u tg pa (Ps.set i p2) := by
  refine ⟨by rw [List.length_set]; exact h.1, fun j p hj => ?_⟩
  by_cases hji : j = i
  · subst hji
    have hl : j < (Ps.set j p2).length := (List.getElem?_eq_some_iff.mp hj).1
    rw [List.length_set] at hl
    rw [List.getElem?_set_self hl] at hj
    cases hj
    exact ⟨a, b, d, f, g, ha, h1, ta1, tb, td⟩
  · rw [List.getElem?_set_ne (Ne.symm hji)] at hj
    obtain ⟨a2, b2, d2, f2, g2, q1, ⟨q2, q3, q4, q5⟩, t1, t2, t3⟩ := h.2 j p hj
    exact ⟨a2, b2, d2, f2, g2, q1, ⟨by rw [hk a2 (wd_some q2) (by omega)]; exact q2, by rw [hk b2 (wd_some q3) (by omega)]; exact q3, by rw [hk d2 (wd_some q4) (by omega)]; exact q4, q5⟩, t1, t2, t3⟩
theorem hs_pa {G : ev_G} {w u : wd_M} {tg : Nat → Nat} {B E : Nat → Nat} {la pa ta : List Nat} {Ls : List hy_L} {Ps Ps2 : List hy_P} {Ts : List hy_T} (h : hs_ G w tg B E la pa ta Ls Ps Ts) (hLs : Ls.length ≤ 4) (hB : ∀ i, i < 3 → tg (B i) = 2 + i) (hk : ∀ x, w x ≠ none → ¬ (2000 ≤ tg x ∧ tg x < 10000) → u x = w x) (hd : ∀ x, u x = none ↔ w x = none) (hl : pa_ G u tg pa Ps2) : hs_ G u tg B E la pa ta Ls Ps2 Ts := by
  obtain ⟨⟨h0, h1, h2, hE⟩, hla, -, h3⟩ := h
  have kB : ∀ i, i < 3 → (∃ y, w (B i) = some y) → u (B i) = w (B i) := fun i hi hy => by obtain ⟨y, hy⟩ := hy; exact hk _ (wd_some hy) (by rw [hB i hi]; omega)
  have kE : ∀ i, i < 3 → w (E i) ≠ none → u (E i) = w (E i) := fun i hi hn => hk _ hn (by rw [hE i hi hn]; omega)
  exact ⟨⟨al_keep h0 (kB 0 (by omega) ⟨_, h0.choose_spec.1⟩) (kE 0 (by omega)), al_keep h1 (kB 1 (by omega) ⟨_, h1.choose_spec.1⟩) (kE 1 (by omega)), al_keep h2 (kB 2 (by omega) ⟨_, h2.choose_spec.1⟩) (kE 2 (by omega)), fun i hi hn => hE i hi (fun q => hn ((hd _).mpr q))⟩, la_keep hla (fun x hx hq => hk x hx (fun z => by have hq : 1000 ≤ tg x ∧ tg x < 2000 := hq; omega)) ex_rf hLs, hl, ta_keep h3 (fun x hx hq => hk x hx (fun z => by have hq : 10000 ≤ tg x := hq; omega)) ex_rf⟩
theorem tot_set {Ps : List hy_P} {k : Nat} {p p2 : hy_P} (h : Ps[k]? = some p) (he : p2.2.1.length = p.2.1.length) : hy_tot (Ps.set k p2) = hy_tot Ps := by
  unfold hy_tot
  rw [List.map_set]
  have h1 : (Ps.map (fun p => p.2.1.length)).set k p2.2.1.length = Ps.map (fun p => p.2.1.length) := by
    refine List.ext_getElem? (fun j => ?_)
    by_cases hj : j = k
    · subst hj
      have hl := (List.getElem?_eq_some_iff.mp h).1
      rw [List.getElem?_set_self (by rw [List.length_map]; exact hl), List.getElem?_map, h, he]
      rfl
    · rw [List.getElem?_set_ne (Ne.symm hj)]
  rw [h1]
theorem tot_app {Ps : List hy_P} {p : hy_P} : hy_tot (Ps ++ [p]) = hy_tot Ps + p.2.1.length := by
  unfold hy_tot
  rw [List.map_append, List.sum_append]
  simp

set_option maxHeartbeats 4000000 in
set_option maxRecDepth 100000 in
/-- pattern -/
theorem c_HR_pattern (l : Launch) (G : ev_G) (w : wd_M) (sz : Nat) (tg : Nat → Nat) (r : Nat) (Ls : List hy_L) (Ps : List hy_P) (Ts : List hy_T) (ml md wd : List Int32) (pl : List Nat) (x d : Int32) (h : hr_ G w tg r Ls Ps Ts ml md wd pl) (hwf : hy_wf Ls Ps Ts ml md wd pl) : ct_i l y_HR_pattern b_HR_pattern 5 (some FieldType.int) (rm_ 8 4 400) G w sz [.ref r, .int x, .int d] (hq_ G w tg r (sp_pattern x d (Ls, Ps, Ts, ml, md, wd, pl))) := by
  refine ct_enter (by decide +kernel) (Nat.le_of_ble_eq_true rfl) ?_
  intro p_ e_ s m below meth c_ hsz S hr hlocks hname hE hW ls hl
  have S : CallFix p_ m c_ b_HR_pattern 5 s _ lw_good "HyphenRows" := S
  have hx := S.1
  have hb := S.2.1
  have hK := hE.1
  have hl : lv_has ls 5 [(0, .ref r), (1, .int x), (2, .int d)] := hl
  obtain ⟨B, E, F, la, pa, ta, hc, hg, hal, hla, hpa, hta, hml, hmd, hwd, hpl⟩ := id h
  have hs : hs_ G w tg B E la pa ta Ls Ps Ts := ⟨hal, hla, hpa, hta⟩
  obtain ⟨hr0, a3, a4, a5, a6, a7, a8⟩ := id hc
  obtain ⟨wL, wP, wT, wm, wml, wwd, wpl, wtot, wmx, wdx, wws, wplx, wlg, wps, wts⟩ := id hwf
  have hB3 : ∀ i, i < 3 → tg (B i) = 2 + i := fun i hi => hg.2 i (by omega)
  have hkp : kp_ w w tg (fun t => 500 ≤ t ∧ t < 600) := kp_rf
  obtain ⟨mo0, haL, he0⟩ := id hs.1.1
  refine lv_aload_n hx hb d_HR_pattern_0 rfl (lv_at hl 0 rfl) ?_
  refine lv_iload_n hx hb d_HR_pattern_1 rfl (lv_at hl 1 rfl) ?_
  refine ct_goi hW (ct_runV (As := [.int x]) (rest := []) (q := (R_HR, F_HR, 13)) S hE hW (c_HR_isLanguage l G _ _ r B E F (nI (hy_tot Ps)) (nI ml.length) (nI wd.length) (nI pl.length) la x hc hal.1) hr0 rfl kc_HR_isLanguage kz_HR k_HR_65 ki_HR_isLanguage kv_HR_isLanguage kd_HR_isLanguage ⟨Nat.le_of_ble_eq_true rfl, Nat.le_of_ble_eq_true rfl⟩ hl.1 (Nat.le_of_ble_eq_true rfl) d_HR_pattern_2 ⟨Nat.le_of_ble_eq_true rfl, Nat.le_of_ble_eq_true rfl⟩) (fun v_3 u_1 H locs hp_2 hW => ?_)
  obtain ⟨hv, hu_4⟩ := hp_2
  rw [hu_4] at hW
  rw [hla.1] at hv
  refine lv_if_eq (tgt := 15) hx hb d_HR_pattern_5 (by decide) (fun h5 => ?_) (fun h5 => ?_)
  · refine lv_iconst (v := -1) hx hb d_HR_pattern_15 (by decide) ?_
    exact ct_iret S hr rfl hlocks hW (⟨_, tg, Or.inl ⟨fun q => bl_f hv h5 q.1, rfl, rfl⟩, h, ex_rf, kp_rf⟩) (Nat.le_of_ble_eq_true rfl) (Nat.le_of_ble_eq_true rfl) d_HR_pattern_16
  · refine lv_iload_n hx hb d_HR_pattern_8 rfl (lv_at hl 2 rfl) ?_
    refine ct_goi hW (ct_runS (As := [.int d]) (rest := []) S hE hW (c_HR_isDigit l G _ _ d) kc_HR_isDigit kz_HR k_HR_99 ks_HR_isDigit kd_HR_isDigit ⟨Nat.le_of_ble_eq_true rfl, Nat.le_of_ble_eq_true rfl⟩ hl.1 (Nat.le_of_ble_eq_true rfl) d_HR_pattern_9 ⟨Nat.le_of_ble_eq_true rfl, Nat.le_of_ble_eq_true rfl⟩) (fun v_7 u_5 H locs hp_6 hW => ?_)
    obtain ⟨hv2, hu_8⟩ := hp_6
    rw [hu_8] at hW
    refine lv_if_ne (tgt := 17) hx hb d_HR_pattern_12 (by decide) (fun h12 => ?_) (fun h12 => ?_)
    · have hnm0 := bl_t hv h5
      have hok : nm_ x Ls.length ∧ ok_d d := ⟨hnm0, bl_t hv2 h12⟩
      obtain ⟨i, hil2, rfl⟩ := nm_of hnm0 (by omega)
      refine lv_aload_n hx hb d_HR_pattern_17 rfl (lv_at hl 0 rfl) ?_
      refine wd_get S i_HR hK hW hr0 rfl 6 (by decide) k_HR_33 rfl rfl d_HR_pattern_18 ?_
      refine lv_topi (fun cn ecn => ?_)
      refine lv_istore_n (lv' := [(3, .int cn), (0, .ref r), (1, .int (nI i)), (2, .int d)]) hx hb d_HR_pattern_21 rfl hl (by decide) rfl (fun ls hl => ?_)
      rw [ecn] at hl
      refine lv_aload_n hx hb d_HR_pattern_22 rfl (lv_at hl 1 rfl) ?_
      refine lv_iconst (v := 0) hx hb d_HR_pattern_23 (by decide) ?_
      refine wd_put S i_HR t_HR t_HR_ok n_HR hK hW hr0 rfl 6 (by decide) k_HR_33 rfl rfl rfl rfl (Nat.le_of_ble_eq_true rfl) d_HR_pattern_24 (fun H locs w_9 ew_9 hW => ?_)
      have hs := hs_up hs wL wP hB3 hr0 ew_9 (Or.inl hg.1)
      have hkp := kp_tr hkp (up_kp ew_9 (by rw [hg.1]; show ¬ (_ ∧ _); omega))
      have a3 := wd_keep ew_9 (wd_ne a3 hr0 (by simp)) a3
      have a4 := wd_keep ew_9 (wd_ne a4 hr0 (by simp)) a4
      have a5 := wd_keep ew_9 (wd_ne a5 hr0 (by simp)) a5
      have a6 := wd_keep ew_9 (wd_ne a6 hr0 (by simp)) a6
      have a7 := wd_keep ew_9 (wd_ne a7 hr0 (by simp)) a7
      have a8 := wd_keep ew_9 (wd_ne a8 hr0 (by simp)) a8
      have haL := wd_keep ew_9 (wd_ne haL hr0 (by simp)) haL
      have hr0 : w_9 r = some (.inr (0, [.ref (B 0), .ref (B 1), .ref (B 2), .int (nI (hy_tot Ps)), .ref (B 3), .ref (B 4), .int 0, .ref (B 5), .int (nI wd.length), .ref (B 6), .ref (B 7), .ref (B 8), .int (nI pl.length)])) := wd_here ew_9
      have hc1 : hr_c G w_9 r B F (nI (hy_tot Ps)) 0 (nI wd.length) (nI pl.length) := ⟨hr0, a3, a4, a5, a6, a7, a8⟩
      refine lv_aload_n hx hb d_HR_pattern_27 rfl (lv_at hl 1 rfl) ?_
      refine lv_iload_n hx hb d_HR_pattern_28 rfl (lv_at hl 0 rfl) ?_
      refine ct_goi hW (ct_runV (As := [.int (nI ml.length)]) (rest := []) (q := (R_HR, F_HR, 13)) S hE hW (c_HR_isPatternRow l G _ _ r B E F (nI (hy_tot Ps)) 0 (nI wd.length) (nI pl.length) ml.length hc1 wml) hr0 rfl kc_HR_isPatternRow kz_HR k_HR_102 ki_HR_isPatternRow kv_HR_isPatternRow kd_HR_isPatternRow ⟨Nat.le_of_ble_eq_true rfl, Nat.le_of_ble_eq_true rfl⟩ hl.1 (Nat.le_of_ble_eq_true rfl) d_HR_pattern_29 ⟨Nat.le_of_ble_eq_true rfl, Nat.le_of_ble_eq_true rfl⟩) (fun v_12 u_10 H locs hp_11 hW => ?_)
      obtain ⟨hvp, hu_13⟩ := hp_11
      rw [hu_13] at hW
      have hvp := bl_i hvp (pat_iff hml)
      refine lv_if_ne (tgt := 38) hx hb d_HR_pattern_32 (by decide) (fun h32 => ?_) (fun h32 => ?_)
      · have hpat := bl_t hvp h32
        have hm1 : 1 ≤ ml.length := by obtain ⟨⟨j, y9, hj, -⟩, -⟩ := hpat; have := (List.getElem?_eq_some_iff.mp hj).1; omega
        refine lv_aload_n hx hb d_HR_pattern_38 rfl (lv_at hl 1 rfl) ?_
        refine wd_get S i_HR hK hW hr0 rfl 5 (by decide) k_HR_30 rfl rfl d_HR_pattern_39 ?_
        refine lv_iload_n hx hb d_HR_pattern_42 rfl (lv_at hl 0 rfl) ?_
        refine lv_iload_n hx hb d_HR_pattern_43 rfl (lv_at hl 3 rfl) ?_
        refine wd_iast S hK hW 0 a4 rfl (vp_in_nI (by omega) (by omega)) d_HR_pattern_44 (fun H locs w_14 ew_14 hW => ?_)
        have hs := hs_up hs wL wP hB3 a4 ew_14 (Or.inr (by rw [hg.2 4 (by omega)]; omega))
        have hkp := kp_tr hkp (up_kp ew_14 (by rw [hg.2 4 (by omega)]; show ¬ (_ ∧ _); omega))
        have hr0 := wd_keep ew_14 (wd_ne hr0 a4 (by simp)) hr0
        have a3 := wd_keep ew_14 (wd_ne a3 a4 (by simp)) a3
        have a5 := wd_keep ew_14 (wd_ne a5 a4 (by simp)) a5
        have a6 := wd_keep ew_14 (wd_ne a6 a4 (by simp)) a6
        have a7 := wd_keep ew_14 (wd_ne a7 a4 (by simp)) a7
        have a8 := wd_keep ew_14 (wd_ne a8 a4 (by simp)) a8
        have haL := wd_keep ew_14 (wd_ne haL a4 (by simp)) haL
        have a4 : w_14 (B 4) = some (.inl (G.2.1 0, 13, .inl (upd (F 4) ((nI ml.length) : Int32).toNatClampNeg d))) := wd_here ew_14
        rw [nI_clamp (by omega)] at a4
        have hmd2 : li_ (md ++ [d]) (upd (F 4) ml.length d) := by rw [wm]; exact li_put hmd
        have hc2 : hr_c G w_14 r B (fun k => if k = 4 then upd (F 4) ml.length d else F k) (nI (hy_tot Ps)) 0 (nI wd.length) (nI pl.length) := ⟨hr0, a3, a4, a5, a6, a7, a8⟩
        refine lv_aload_n hx hb d_HR_pattern_45 rfl (lv_at hl 1 rfl) ?_
        refine lv_iload_n hx hb d_HR_pattern_46 rfl (lv_at hl 2 rfl) ?_
        refine lv_iload_n hx hb d_HR_pattern_47 rfl (lv_at hl 0 rfl) ?_
        refine ct_goi hW (ct_runV (As := [.int (nI i), .int (nI ml.length)]) (rest := []) (q := (R_HR, F_HR, 13)) S hE hW (c_HR_patternWithMadeRow l G _ _ r B E (fun k => if k = 4 then upd (F 4) ml.length d else F k) (nI (hy_tot Ps)) 0 (nI wd.length) (nI pl.length) ml.length i tg pa Ps ml hc2 hs.1.2.1 hs.2.2.1 (fun p hp => ⟨(wps p hp).1, (wps p hp).2.2.1, (wps p hp).2.2.2.1⟩) wP hml rfl wml (by omega)) hr0 rfl kc_HR_patternWithMadeRow kz_HR k_HR_105 ki_HR_patternWithMadeRow kv_HR_patternWithMadeRow kd_HR_patternWithMadeRow ⟨Nat.le_of_ble_eq_true rfl, Nat.le_of_ble_eq_true rfl⟩ hl.1 (Nat.le_of_ble_eq_true rfl) d_HR_pattern_48 ⟨Nat.le_of_ble_eq_true rfl, Nat.le_of_ble_eq_true rfl⟩) (fun v_17 u_15 H locs hp_16 hW => ?_)
        obtain ⟨hfm, hu_18⟩ := hp_16
        rw [hu_18] at hW
        refine lv_istore (lv' := [(4, .int v_17), (3, .int (nI ml.length)), (0, .ref r), (1, .int (nI i)), (2, .int d)]) hx hb d_HR_pattern_51 hl (by decide) rfl (fun ls hl => ?_)
        refine lv_iload hx hb d_HR_pattern_53 (lv_at hl 0 rfl) ?_
        refine lv_iconst (v := -1) hx hb d_HR_pattern_55 (by decide) ?_
        refine lv_icmp_eq (tgt := 89) hx hb d_HR_pattern_56 (by decide) (fun h56 => ?_) (fun h56 => ?_)
        have hdom : ∀ y, w_14 y = none ↔ w y = none := fun y => by rw [ew_14, ew_9]; exact up_dom2 hc.1 hc.2.2.1
        · have hfm1 : fm_ Ps (fun p => p.1 = i ∧ p.2.1 = ml) (-1) := by rw [h56] at hfm; exact hfm
          refine lv_aload_n hx hb d_HR_pattern_89 rfl (lv_at hl 2 rfl) ?_
          refine lv_iload_n hx hb d_HR_pattern_90 rfl (lv_at hl 3 rfl) ?_
          refine lv_iload_n hx hb d_HR_pattern_91 rfl (lv_at hl 1 rfl) ?_
          refine ct_goi hW (ct_runV (As := [.int (nI i), .int (nI ml.length)]) (rest := []) (q := (R_HR, F_HR, 13)) S hE hW (c_HR_addPattern l G _ _ tg r i B E (fun k => if k = 4 then upd (F 4) ml.length d else F k) 0 (nI wd.length) (nI pl.length) la pa ta Ls Ps Ts ml (md ++ [d]) hc2 hg hs wL wP wtot hml hmd2 (by rw [List.length_append, wm]; rfl) wml hm1) hr0 rfl kc_HR_addPattern kz_HR k_HR_120 ki_HR_addPattern kv_HR_addPattern kd_HR_addPattern ⟨Nat.le_of_ble_eq_true rfl, Nat.le_of_ble_eq_true rfl⟩ hl.1 (Nat.le_of_ble_eq_true rfl) d_HR_pattern_92 ⟨Nat.le_of_ble_eq_true rfl, Nat.le_of_ble_eq_true rfl⟩) (fun v_21 u_19 H locs hp_20 hW => ?_)
          have hpost : hq_ G w tg r (sp_pattern (nI i) d (Ls, Ps, Ts, ml, md, wd, pl)) v_21 u_19 := by
            rcases hp_20 with ⟨q1, q2, q3⟩ | ⟨q1, q2, tg2, E2, pa2, q3, q4, q5, q6, q7⟩
            · rw [q3]
              exact ⟨(Ls, Ps, Ts, [], [], wd, pl), tg, Or.inr ⟨hok, i, rfl, Or.inr (Or.inr (Or.inl ⟨hpat, hfm1, q2, q1, rfl⟩))⟩, ⟨B, E, _, la, pa, ta, hc2, hg, hs.1, hs.2.1, hs.2.2.1, hs.2.2.2, li_nil, li_nil, hwd, hpl⟩, ex_rf, hkp⟩
            · refine ⟨(Ls, Ps ++ [(i, ml, md ++ [d])], Ts, [], [], wd, pl), tg2, Or.inr ⟨hok, i, rfl, Or.inr (Or.inr (Or.inr ⟨hpat, hfm1, q1, q2, rfl⟩))⟩, ⟨B, E2, (fun k => if k = 4 then upd (F 4) ml.length d else F k), la, pa2, ta, ?_, q4, q5.1, q5.2.1, q5.2.2.1, q5.2.2.2, li_nil, li_nil, hwd, hpl⟩, fun y hy => q6 y (fun z => hy ((hdom y).mp z)), kp_tr hkp q7⟩
              show hr_c G _ r B _ (nI (hy_tot (Ps ++ [(i, ml, md ++ [d])]))) _ _ _
              rw [tot_app]
              exact q3
          exact ct_iret S hr rfl hlocks hW (hpost) (Nat.le_of_ble_eq_true rfl) (Nat.le_of_ble_eq_true rfl) d_HR_pattern_95
        · obtain ⟨k, p, exv, hpk, ⟨hpl1, hpm⟩, hbef⟩ : ∃ (k : Nat) (p : hy_P), v_17 = nI k ∧ Ps[k]? = some p ∧ (p.1 = i ∧ p.2.1 = ml) ∧ ∀ (j : Nat) (y : hy_P), j < k → Ps[j]? = some y → ¬ (y.1 = i ∧ y.2.1 = ml) := hfm.elim (fun q => absurd q.1 h56) id
          have hkl : k < Ps.length := (List.getElem?_eq_some_iff.mp hpk).1
          obtain ⟨a, b, dd, f, g, e1, ⟨p1, p2, p3, p4, p5⟩, ta1, tb1, td1⟩ := hs.2.2.1.2 k p hpk
          have hpal := hs.2.2.1.1
          obtain ⟨mo1, haP, he1⟩ := id hs.1.2.1
          refine lv_aload_n hx hb d_HR_pattern_59 rfl (lv_at hl 2 rfl) ?_
          refine wd_get S i_HR hK hW hr0 rfl 5 (by decide) k_HR_30 rfl rfl d_HR_pattern_60 ?_
          refine lv_iconst (v := 0) hx hb d_HR_pattern_63 (by decide) ?_
          refine lv_aload_n hx hb d_HR_pattern_64 rfl (lv_at hl 2 rfl) ?_
          refine wd_get S i_HR hK hW hr0 rfl 1 (by decide) k_HR_16 rfl rfl d_HR_pattern_65 ?_
          refine lv_iload hx hb d_HR_pattern_68 (lv_at hl 0 rfl) ?_
          rw [exv]
          refine ct_goq hW (ct_runV (As := [.int (nI k)]) (rest := [.int 0, .ref (B 4)]) (q := (R_AL, F_AL, 3)) S hE hW (c_AL_get l G _ _ (B 1) (E 1) pa k hs.1.2.1 (by omega)) haP rfl kc_AL_get kz_AL k_HR_75 ki_AL_get kv_AL_get kd_AL_get ⟨Nat.le_of_ble_eq_true rfl, Nat.le_of_ble_eq_true rfl⟩ hl.1 (Nat.le_of_ble_eq_true rfl) d_HR_pattern_70 ⟨Nat.le_of_ble_eq_true rfl, Nat.le_of_ble_eq_true rfl⟩) (fun v_24 u_22 H locs hp_23 hW => ?_)
          obtain ⟨hvg, hu_25⟩ := hp_23
          rw [hu_25] at hW
          rw [hvg, e1]
          refine W.eq (g2 := F0 m 73 ls [.ref a, .int 0, .ref (B 4)]) rfl ?_
          refine wd_cast S (T := F_Pa) (N := 3) k_HR_109 hK hW p1 rfl d_HR_pattern_73 ?_
          refine wd_get S i_Pa hK hW p1 rfl 2 (by decide) k_HR_111 rfl rfl d_HR_pattern_76 ?_
          refine lv_iconst (v := 0) hx hb d_HR_pattern_79 (by decide) ?_
          refine lv_iload_n hx hb d_HR_pattern_80 rfl (lv_at hl 1 rfl) ?_
          refine lv_iconst (v := 1) hx hb d_HR_pattern_81 (by decide) ?_
          refine lv_iadd hx hb d_HR_pattern_82 ?_
          rw [nI_1]
          rw [hpm] at p3 p2
          refine wd_copyi S hl.1 k_HR_114 kn_Sy_arraycopy ks_Sy_arraycopy kz_Sy hK hW 0 a4 p3 rfl (by decide) (by decide) (nI_pos (by omega)) (by rw [nI_clamp (by omega)]; show 0 + (ml.length + 1) ≤ 13; omega) (by rw [nI_clamp (by omega)]; show 0 + (ml.length + 1) ≤ ml.length + 1; omega) (Nat.le_of_ble_eq_true rfl) (Nat.le_of_ble_eq_true rfl) d_HR_pattern_83 (fun H locs w_26 ew_26 hW => ?_)
          have hk : ∀ y, w_14 y ≠ none → tg y ≠ 2002 + 3 * k → w_26 y = w_14 y := fun y _ hq => by rw [ew_26, va_up_ne _ _ (fun h => hq (by rw [h]; exact td1))]
          have hd9 : ∀ y, w_26 y = none ↔ w_14 y = none := fun y => by rw [ew_26]; exact up_dom p3
          have hpa2 := pa_upd (p2 := (i, ml, md ++ [d])) hs.2.2.1 e1 ta1 tb1 td1 hk ⟨by rw [hk a (wd_some p1) (by omega), ← hpl1]; exact p1, by rw [hk b (wd_some p2) (by omega)]; exact p2, wd_here ew_26, by rw [← hpm]; exact p4, li_take hmd2 (fun j hj => by have hj : j < (md ++ [d]).length := hj; rw [List.length_append] at hj; have hj : j < md.length + 1 := hj; rw [nI_clamp (by omega)]; exact (pk_cpy_in (Nat.zero_le _) (by show j < 0 + (ml.length + 1); omega)).trans (by show upd (F 4) ml.length d (0 + (j - 0)) = _; rw [Nat.zero_add, Nat.sub_zero]))⟩
          have hs := hs_pa hs wL hB3 (fun y hy hq => hk y hy (by omega)) hd9 hpa2
          have hkp := kp_tr hkp (fun y hy hq => hk y hy (by have hq : 500 ≤ tg y ∧ tg y < 600 := hq; omega))
          have hcF := hc_kp hc2 hg (fun y hy hq => hk y hy (by omega))
          refine lv_iload hx hb d_HR_pattern_86 (lv_at hl 0 rfl) ?_
          rw [exv]
          have hcG : hr_c G w_26 r B (fun k => if k = 4 then upd (F 4) ml.length d else F k) (nI (hy_tot (Ps.set k (i, ml, md ++ [d])))) 0 (nI wd.length) (nI pl.length) := by rw [tot_set hpk (by rw [hpm])]; exact hcF
          exact ct_iret S hr rfl hlocks hW (⟨(Ls, Ps.set k (i, ml, md ++ [d]), Ts, [], [], wd, pl), tg, Or.inr ⟨hok, i, rfl, Or.inr (Or.inl ⟨hpat, k, Or.inr ⟨k, p, rfl, hpk, ⟨hpl1, hpm⟩, hbef⟩, hkl, rfl, rfl⟩)⟩, ⟨B, E, _, la, pa, ta, hcG, hg, hs.1, hs.2.1, hs.2.2.1, hs.2.2.2, li_nil, li_nil, hwd, hpl⟩, ex_rf, hkp⟩) (Nat.le_of_ble_eq_true rfl) (Nat.le_of_ble_eq_true rfl) d_HR_pattern_88
      · refine lv_bipush (v := -3) hx hb d_HR_pattern_35 (by decide) ?_
        have hcF : hr_c G w_9 r B (F) (nI (hy_tot Ps)) (nI ([] : List Int32).length) (nI wd.length) (nI pl.length) := ⟨hr0, a3, a4, a5, a6, a7, a8⟩
        exact ct_iret S hr rfl hlocks hW (⟨(Ls, Ps, Ts, [], [], wd, pl), tg, Or.inr ⟨hok, i, rfl, Or.inl ⟨bl_f hvp h32, rfl, rfl⟩⟩, ⟨B, E, _, la, pa, ta, hcF, hg, hs.1, hs.2.1, hs.2.2.1, hs.2.2.2, li_nil, li_nil, hwd, hpl⟩, ex_rf, hkp⟩) (Nat.le_of_ble_eq_true rfl) (Nat.le_of_ble_eq_true rfl) d_HR_pattern_37
    · refine lv_iconst (v := -1) hx hb d_HR_pattern_15 (by decide) ?_
      exact ct_iret S hr rfl hlocks hW (⟨_, tg, Or.inl ⟨fun q => bl_f hv2 h12 q.2, rfl, rfl⟩, h, ex_rf, kp_rf⟩) (Nat.le_of_ble_eq_true rfl) (Nat.le_of_ble_eq_true rfl) d_HR_pattern_16
end
section
/-! THE CLASS: exception, drop, the constructor. -/

theorem ta_upd {G : ev_G} {w u : wd_M} {tg : Nat → Nat} {ta : List Nat} {Ts : List hy_T} {i a b : Nat} {f : Nat → Int32} {t2 : hy_T} (h : ta_ G w tg ta Ts) (ha : ta[i]? = some a) (ta1 : tg a = 10000 + 2 * a) (tb : tg b = 10001 + 2 * a) (hk : ∀ x, w x ≠ none → x ≠ a → u x = w x) (h1 : ta_1 G u a b f t2) : ta_ G u tg ta (Ts.set i t2) := by
  refine ⟨by rw [List.length_set]; exact h.1, h.2.1, fun j t hj => ?_⟩
  by_cases hji : j = i
  · subst hji
    have hl : j < (Ts.set j t2).length := (List.getElem?_eq_some_iff.mp hj).1
    rw [List.length_set] at hl
    rw [List.getElem?_set_self hl] at hj
    cases hj
    exact ⟨a, b, f, ha, h1, ta1, tb⟩
  · rw [List.getElem?_set_ne (Ne.symm hji)] at hj
    obtain ⟨a2, b2, f2, q1, ⟨q2, q3, q4⟩, t1, t3⟩ := h.2.2 j t hj
    have n1 : a2 ≠ a := fun q => hji (h.2.1 j i a2 q1 (by rw [q]; exact ha))
    have n2 : b2 ≠ a := tg_ne (tg := tg) (by omega)
    exact ⟨a2, b2, f2, q1, ⟨by rw [hk a2 (wd_some q2) n1]; exact q2, by rw [hk b2 (wd_some q3) n2]; exact q3, q4⟩, t1, t3⟩
theorem hs_ta {G : ev_G} {w u : wd_M} {tg : Nat → Nat} {B E : Nat → Nat} {la pa ta : List Nat} {Ls : List hy_L} {Ps : List hy_P} {Ts Ts2 : List hy_T} (h : hs_ G w tg B E la pa ta Ls Ps Ts) (hLs : Ls.length ≤ 4) (hPs : Ps.length ≤ 150) (hB : ∀ i, i < 3 → tg (B i) = 2 + i) (hk : ∀ x, w x ≠ none → ¬ 10000 ≤ tg x → u x = w x) (hd : ∀ x, u x = none ↔ w x = none) (hl : ta_ G u tg ta Ts2) : hs_ G u tg B E la pa ta Ls Ps Ts2 := by
  obtain ⟨⟨h0, h1, h2, hE⟩, hla, hp, -⟩ := h
  have kB : ∀ i, i < 3 → (∃ y, w (B i) = some y) → u (B i) = w (B i) := fun i hi hy => by obtain ⟨y, hy⟩ := hy; exact hk _ (wd_some hy) (by rw [hB i hi]; omega)
  have kE : ∀ i, i < 3 → w (E i) ≠ none → u (E i) = w (E i) := fun i hi hn => hk _ hn (by rw [hE i hi hn]; omega)
  exact ⟨⟨al_keep h0 (kB 0 (by omega) ⟨_, h0.choose_spec.1⟩) (kE 0 (by omega)), al_keep h1 (kB 1 (by omega) ⟨_, h1.choose_spec.1⟩) (kE 1 (by omega)), al_keep h2 (kB 2 (by omega) ⟨_, h2.choose_spec.1⟩) (kE 2 (by omega)), fun i hi hn => hE i hi (fun q => hn ((hd _).mpr q))⟩, la_keep hla (fun x hx hq => hk x hx (by have hq : 1000 ≤ tg x ∧ tg x < 2000 := hq; omega)) ex_rf hLs, pa_keep hp (fun x hx hq => hk x hx (by have hq : 2000 ≤ tg x ∧ tg x < 10000 := hq; omega)) ex_rf hPs, hl⟩
theorem ta_erase {G : ev_G} {u : wd_M} {tg : Nat → Nat} {ta : List Nat} {Ts : List hy_T} {k : Nat} (h : ta_ G u tg ta Ts) (hk : k < Ts.length) : ta_ G u tg (ta.eraseIdx k) (Ts.eraseIdx k) := by
  have hl := h.1
  refine ⟨by rw [List.length_eraseIdx_of_lt (by omega), List.length_eraseIdx_of_lt hk, h.1], fun i j a hi hj => ?_, fun i t hi => ?_⟩
  · rw [List.getElem?_eraseIdx] at hi hj
    split at hi <;> split at hj
    · exact h.2.1 i j a hi hj
    · have := h.2.1 i (j + 1) a hi hj; omega
    · have := h.2.1 (i + 1) j a hi hj; omega
    · have := h.2.1 (i + 1) (j + 1) a hi hj; omega
  · rw [List.getElem?_eraseIdx] at hi
    split at hi
    · obtain ⟨a, b, f, q1, q2⟩ := h.2.2 i t hi
      exact ⟨a, b, f, by rw [List.getElem?_eraseIdx, if_pos (by assumption)]; exact q1, q2⟩
    · obtain ⟨a, b, f, q1, q2⟩ := h.2.2 (i + 1) t hi
      exact ⟨a, b, f, by rw [List.getElem?_eraseIdx, if_neg (by assumption)]; exact q1, q2⟩

theorem cat_rf (r : Option Nat) : (va_rf r).category = 1 := by cases r <;> rfl

set_option maxHeartbeats 4000000 in
set_option maxRecDepth 100000 in
/-- drop -/
theorem c_HR_drop (l : Launch) (G : ev_G) (w : wd_M) (sz : Nat) (tg : Nat → Nat) (r : Nat) (Ls : List hy_L) (Ps : List hy_P) (Ts : List hy_T) (ml md wd : List Int32) (pl : List Nat) (x : Int32) (h : hr_ G w tg r Ls Ps Ts ml md wd pl) (hwf : hy_wf Ls Ps Ts ml md wd pl) : ct_i l y_HR_drop b_HR_drop 2 (some FieldType.int) (rm_ 3 0 0) G w sz [.ref r, .int x] (hq_ G w tg r (sp_drop x (Ls, Ps, Ts, ml, md, wd, pl))) := by
  refine ct_enter (by decide +kernel) (Nat.le_of_ble_eq_true rfl) ?_
  intro p_ e_ s m below meth c_ hsz S hr hlocks hname hE hW ls hl
  have S : CallFix p_ m c_ b_HR_drop 2 s _ lw_good "HyphenRows" := S
  have hx := S.1
  have hb := S.2.1
  have hK := hE.1
  have hl : lv_has ls 2 [(0, .ref r), (1, .int x)] := hl
  obtain ⟨B, E, F, la, pa, ta, hc, hg, hal, hla, hpa, hta, hml, hmd, hwd, hpl⟩ := id h
  have hs : hs_ G w tg B E la pa ta Ls Ps Ts := ⟨hal, hla, hpa, hta⟩
  obtain ⟨hr0, a3, a4, a5, a6, a7, a8⟩ := id hc
  obtain ⟨wL, wP, wT, wm, wml, wwd, wpl, wtot, wmx, wdx, wws, wplx, wlg, wps, wts⟩ := id hwf
  have hB3 : ∀ i, i < 3 → tg (B i) = 2 + i := fun i hi => hg.2 i (by omega)
  have hkp : kp_ w w tg (fun t => 500 ≤ t ∧ t < 600) := kp_rf
  obtain ⟨mo2, haT, he2⟩ := id hal.2.2.1
  refine lv_iload_n hx hb d_HR_drop_0 rfl (lv_at hl 1 rfl) ?_
  refine lv_if_lt (tgt := 15) hx hb d_HR_drop_1 (by decide) (fun h1 => ?_) (fun h1 => ?_)
  · refine lv_iconst (v := -1) hx hb d_HR_drop_15 (by decide) ?_
    exact ct_iret S hr rfl hlocks hW (⟨_, tg, Or.inl ⟨fun q => q.1 h1, rfl, rfl⟩, h, ex_rf, kp_rf⟩) (Nat.le_of_ble_eq_true rfl) (Nat.le_of_ble_eq_true rfl) d_HR_drop_16
  · refine lv_iload_n hx hb d_HR_drop_4 rfl (lv_at hl 1 rfl) ?_
    refine lv_aload_n hx hb d_HR_drop_5 rfl (lv_at hl 0 rfl) ?_
    refine wd_get S i_HR hK hW hr0 rfl 2 (by decide) k_HR_19 rfl rfl d_HR_drop_6 ?_
    refine ct_goi hW (ct_runV (As := []) (rest := [.int x]) (q := (R_AL, F_AL, 3)) S hE hW (c_AL_size l G _ _ (B 2) (E 2) (nI ta.length) mo2 haT) haT rfl kc_AL_size kz_AL k_HR_54 ki_AL_size kv_AL_size kd_AL_size ⟨Nat.le_of_ble_eq_true rfl, Nat.le_of_ble_eq_true rfl⟩ hl.1 (Nat.le_of_ble_eq_true rfl) d_HR_drop_9 ⟨Nat.le_of_ble_eq_true rfl, Nat.le_of_ble_eq_true rfl⟩) (fun v_3 u_1 H locs hp_2 hW => ?_)
    obtain ⟨hv, hu_4⟩ := hp_2
    rw [hu_4] at hW
    rw [hv, hta.1]
    refine lv_icmp_lt (tgt := 17) hx hb d_HR_drop_12 (by decide) (fun h12 => ?_) (fun h12 => ?_)
    · have hnm : nm_ x Ts.length := ⟨h1, Int32.not_le.mpr h12⟩
      obtain ⟨k, hk, rfl⟩ := nm_of hnm (by omega)
      refine lv_aload_n hx hb d_HR_drop_17 rfl (lv_at hl 0 rfl) ?_
      refine wd_get S i_HR hK hW hr0 rfl 2 (by decide) k_HR_19 rfl rfl d_HR_drop_18 ?_
      refine lv_iload_n hx hb d_HR_drop_21 rfl (lv_at hl 1 rfl) ?_
      refine ct_goq hW (ct_runV (As := [.int (nI k)]) (rest := []) (q := (R_AL, F_AL, 3)) S hE hW (c_AL_remove l G _ _ (B 2) (E 2) k ta hal.2.2.1 (by rw [hta.1]; exact hk) (ta_obs hta)) haT rfl kc_AL_remove kz_AL k_HR_145 ki_AL_remove kv_AL_remove kd_AL_remove ⟨Nat.le_of_ble_eq_true rfl, Nat.le_of_ble_eq_true rfl⟩ hl.1 (Nat.le_of_ble_eq_true rfl) d_HR_drop_22 ⟨Nat.le_of_ble_eq_true rfl, Nat.le_of_ble_eq_true rfl⟩) (fun v_7 u_5 H locs hp_6 hW => ?_)
      obtain ⟨hal2, hku, hd⟩ := hp_6
      have hk9 : ∀ y, w y ≠ none → tg y ≠ 4 → tg y ≠ 13 → u_5 y = w y := fun y hy h1 h2 => hku y (fun q => h1 (by rw [q]; exact hg.2 2 (by omega))) (fun q => h2 (by rw [q]; exact hal.2.2.2 2 (by omega) (by rw [← q]; exact hy)))
      have kB : ∀ i, i < 2 → (∃ y, w (B i) = some y) → u_5 (B i) = w (B i) := fun i hi hy => by obtain ⟨y, hy⟩ := hy; exact hk9 _ (wd_some hy) (by rw [hg.2 i (by omega)]; omega) (by rw [hg.2 i (by omega)]; omega)
      have kE : ∀ i, i < 2 → w (E i) ≠ none → u_5 (E i) = w (E i) := fun i hi hn => hk9 _ hn (by rw [hal.2.2.2 i (by omega) hn]; omega) (by rw [hal.2.2.2 i (by omega) hn]; omega)
      have hta2 := ta_erase (k := k) (ta_keep (tg2 := tg) hta (fun x hx hq => hk9 x hx (by have hq : 10000 ≤ tg x := hq; omega) (by have hq : 10000 ≤ tg x := hq; omega)) ex_rf) hk
      have hsF : hs_ G u_5 tg B E la pa (ta.eraseIdx k) Ls Ps (Ts.eraseIdx k) := ⟨⟨al_keep hal.1 (kB 0 (by omega) ⟨_, hal.1.choose_spec.1⟩) (kE 0 (by omega)), al_keep hal.2.1 (kB 1 (by omega) ⟨_, hal.2.1.choose_spec.1⟩) (kE 1 (by omega)), hal2, fun i hi hn => hal.2.2.2 i hi (fun q => hn ((hd _).mpr q))⟩, la_keep hla (fun x hx hq => hk9 x hx (by have hq : 1000 ≤ tg x ∧ tg x < 2000 := hq; omega) (by have hq : 1000 ≤ tg x ∧ tg x < 2000 := hq; omega)) ex_rf wL, pa_keep hpa (fun x hx hq => hk9 x hx (by have hq : 2000 ≤ tg x ∧ tg x < 10000 := hq; omega) (by have hq : 2000 ≤ tg x ∧ tg x < 10000 := hq; omega)) ex_rf wP, hta2⟩
      have hcF : hr_c G u_5 r B F (nI (hy_tot Ps)) (nI ml.length) (nI wd.length) (nI pl.length) := ⟨(hk9 _ (wd_some hr0) (by rw [hg.1]; omega) (by rw [hg.1]; omega)).trans hr0, (hk9 _ (wd_some a3) (by rw [hg.2 3 (by omega)]; omega) (by rw [hg.2 3 (by omega)]; omega)).trans a3, (hk9 _ (wd_some a4) (by rw [hg.2 4 (by omega)]; omega) (by rw [hg.2 4 (by omega)]; omega)).trans a4, (hk9 _ (wd_some a5) (by rw [hg.2 5 (by omega)]; omega) (by rw [hg.2 5 (by omega)]; omega)).trans a5, (hk9 _ (wd_some a6) (by rw [hg.2 6 (by omega)]; omega) (by rw [hg.2 6 (by omega)]; omega)).trans a6, (hk9 _ (wd_some a7) (by rw [hg.2 7 (by omega)]; omega) (by rw [hg.2 7 (by omega)]; omega)).trans a7, (hk9 _ (wd_some a8) (by rw [hg.2 8 (by omega)]; omega) (by rw [hg.2 8 (by omega)]; omega)).trans a8⟩
      refine lv_pop hx hb d_HR_drop_25 (cat_rf v_7) ?_
      refine lv_iconst (v := 1) hx hb d_HR_drop_26 (by decide) ?_
      exact ct_iret S hr rfl hlocks hW (⟨(Ls, Ps, Ts.eraseIdx k, ml, md, wd, pl), tg, Or.inr ⟨hnm, rfl, k, rfl, rfl⟩, ⟨B, E, F, la, pa, _, hcF, hg, hsF.1, hsF.2.1, hsF.2.2.1, hsF.2.2.2, hml, hmd, hwd, hpl⟩, ex_rf, fun y hy hq => hk9 y hy (by have hq : 500 ≤ tg y ∧ tg y < 600 := hq; omega) (by have hq : 500 ≤ tg y ∧ tg y < 600 := hq; omega)⟩) (Nat.le_of_ble_eq_true rfl) (Nat.le_of_ble_eq_true rfl) d_HR_drop_27
    · refine lv_iconst (v := -1) hx hb d_HR_drop_15 (by decide) ?_
      exact ct_iret S hr rfl hlocks hW (⟨_, tg, Or.inl ⟨fun q => q.2 (Int32.not_lt.mp h12), rfl, rfl⟩, h, ex_rf, kp_rf⟩) (Nat.le_of_ble_eq_true rfl) (Nat.le_of_ble_eq_true rfl) d_HR_drop_16

set_option maxHeartbeats 4000000 in
set_option maxRecDepth 100000 in
/-- exception -/
theorem c_HR_exception (l : Launch) (G : ev_G) (w : wd_M) (sz : Nat) (tg : Nat → Nat) (r : Nat) (Ls : List hy_L) (Ps : List hy_P) (Ts : List hy_T) (ml md wd : List Int32) (pl : List Nat) (x y : Int32) (h : hr_ G w tg r Ls Ps Ts ml md wd pl) (hwf : hy_wf Ls Ps Ts ml md wd pl) : ct_i l y_HR_exception b_HR_exception 4 (some FieldType.int) (rm_ 7 3 400) G w sz [.ref r, .int x, .int y] (hq_ G w tg r (sp_exception x y (Ls, Ps, Ts, ml, md, wd, pl))) := by
  refine ct_enter (by decide +kernel) (Nat.le_of_ble_eq_true rfl) ?_
  intro p_ e_ s m below meth c_ hsz S hr hlocks hname hE hW ls hl
  have S : CallFix p_ m c_ b_HR_exception 4 s _ lw_good "HyphenRows" := S
  have hx := S.1
  have hb := S.2.1
  have hK := hE.1
  have hl : lv_has ls 4 [(0, .ref r), (1, .int x), (2, .int y)] := hl
  obtain ⟨B, E, F, la, pa, ta, hc, hg, hal, hla, hpa, hta, hml, hmd, hwd, hpl⟩ := id h
  have hs : hs_ G w tg B E la pa ta Ls Ps Ts := ⟨hal, hla, hpa, hta⟩
  obtain ⟨hr0, a3, a4, a5, a6, a7, a8⟩ := id hc
  obtain ⟨wL, wP, wT, wm, wml, wwd, wpl, wtot, wmx, wdx, wws, wplx, wlg, wps, wts⟩ := id hwf
  have hB3 : ∀ i, i < 3 → tg (B i) = 2 + i := fun i hi => hg.2 i (by omega)
  have hkp : kp_ w w tg (fun t => 500 ≤ t ∧ t < 600) := kp_rf
  obtain ⟨mo0, haL, he0⟩ := id hs.1.1
  refine lv_aload_n hx hb d_HR_exception_0 rfl (lv_at hl 0 rfl) ?_
  refine lv_iload_n hx hb d_HR_exception_1 rfl (lv_at hl 1 rfl) ?_
  refine ct_goi hW (ct_runV (As := [.int x]) (rest := []) (q := (R_HR, F_HR, 13)) S hE hW (c_HR_isLanguage l G _ _ r B E F (nI (hy_tot Ps)) (nI ml.length) (nI wd.length) (nI pl.length) la x hc hal.1) hr0 rfl kc_HR_isLanguage kz_HR k_HR_65 ki_HR_isLanguage kv_HR_isLanguage kd_HR_isLanguage ⟨Nat.le_of_ble_eq_true rfl, Nat.le_of_ble_eq_true rfl⟩ hl.1 (Nat.le_of_ble_eq_true rfl) d_HR_exception_2 ⟨Nat.le_of_ble_eq_true rfl, Nat.le_of_ble_eq_true rfl⟩) (fun v_3 u_1 H locs hp_2 hW => ?_)
  obtain ⟨hv, hu_4⟩ := hp_2
  rw [hu_4] at hW
  rw [hla.1] at hv
  refine lv_if_ne (tgt := 10) hx hb d_HR_exception_5 (by decide) (fun h5 => ?_) (fun h5 => ?_)
  · have hnm0 := bl_t hv h5
    have hnm : nm_ x la.length := by rw [hla.1]; exact hnm0
    obtain ⟨i, hil, rfl⟩ := nm_of hnm (by rw [hla.1]; omega)
    have hil2 : i < Ls.length := by rw [← hla.1]; exact hil
    have hlgi : Ls[i]? = some Ls[i] := List.getElem?_eq_getElem hil2
    generalize Ls[i] = lg at hlgi
    obtain ⟨a, b, z, e1, hla1, tga, tgb, tgz⟩ := hs.2.1.2 i lg hlgi
    have hlgm := wlg lg (List.mem_of_getElem? hlgi)
    refine lv_aload_n hx hb d_HR_exception_10 rfl (lv_at hl 0 rfl) ?_
    refine wd_get S i_HR hK hW hr0 rfl 8 (by decide) k_HR_39 rfl rfl d_HR_exception_11 ?_
    refine lv_if_eq (tgt := 35) hx hb d_HR_exception_14 (by decide) (fun h14 => ?_) (fun h14 => ?_)
    · refine lv_bipush (v := -3) hx hb d_HR_exception_35 (by decide) ?_
      exact ct_iret S hr rfl hlocks hW (⟨_, tg, Or.inr ⟨hnm0, i, lg, rfl, hlgi, Or.inl ⟨fun q => absurd ((nI_eq (a := wd.length) (b := 0) (by omega) (by omega)).mp h14) (by have h9 : 0 < wd.length := q.1; omega), rfl, rfl⟩⟩, h, ex_rf, kp_rf⟩) (Nat.le_of_ble_eq_true rfl) (Nat.le_of_ble_eq_true rfl) d_HR_exception_37
    · have hpos : 0 < wd.length := Nat.pos_of_ne_zero (fun q => h14 (by rw [q]; rfl))
      obtain ⟨mo0, haL, he0⟩ := id hs.1.1
      refine lv_aload_n hx hb d_HR_exception_17 rfl (lv_at hl 0 rfl) ?_
      refine lv_aload_n hx hb d_HR_exception_18 rfl (lv_at hl 0 rfl) ?_
      refine wd_get S i_HR hK hW hr0 rfl 0 (by decide) k_HR_10 rfl rfl d_HR_exception_19 ?_
      refine lv_iload_n hx hb d_HR_exception_22 rfl (lv_at hl 1 rfl) ?_
      refine ct_goq hW (ct_runV (As := [.int (nI i)]) (rest := [.ref r]) (q := (R_AL, F_AL, 3)) S hE hW (c_AL_get l G _ _ (B 0) (E 0) la i hs.1.1 hil) haL rfl kc_AL_get kz_AL k_HR_75 ki_AL_get kv_AL_get kd_AL_get ⟨Nat.le_of_ble_eq_true rfl, Nat.le_of_ble_eq_true rfl⟩ hl.1 (Nat.le_of_ble_eq_true rfl) d_HR_exception_23 ⟨Nat.le_of_ble_eq_true rfl, Nat.le_of_ble_eq_true rfl⟩) (fun v_7 u_5 H locs hp_6 hW => ?_)
      obtain ⟨hvg, hu_8⟩ := hp_6
      rw [hu_8] at hW
      rw [hvg, e1]
      refine W.eq (g2 := F0 m 26 ls [.ref a, .ref r]) rfl ?_
      refine wd_cast S (T := F_La) (N := 5) k_HR_58 hK hW hla1.1 rfl d_HR_exception_26 ?_
      obtain ⟨q1, q2, q3⟩ := id hla1
      refine ct_goi hW (ct_runV (As := [.ref a]) (rest := []) (q := (R_HR, F_HR, 13)) S hE hW (c_HR_spellWord l G _ _ r B F (nI (hy_tot Ps)) (nI ml.length) (nI pl.length) a b z lg wd hc hla1 hwd wwd wws) hr0 rfl kc_HR_spellWord kz_HR k_HR_123 ki_HR_spellWord kv_HR_spellWord kd_HR_spellWord ⟨Nat.le_of_ble_eq_true rfl, Nat.le_of_ble_eq_true rfl⟩ hl.1 (Nat.le_of_ble_eq_true rfl) d_HR_exception_29 ⟨Nat.le_of_ble_eq_true rfl, Nat.le_of_ble_eq_true rfl⟩) (fun v_11 u_9 H locs hp_10 hW => ?_)
      obtain ⟨hv6, g6, eu, hrow⟩ := hp_10
      have hs := hs_up hs wL wP hB3 a6 eu (Or.inr (by rw [hg.2 6 (by omega)]; omega))
      have hkp := kp_tr hkp (up_kp eu (by rw [hg.2 6 (by omega)]; show ¬ (_ ∧ _); omega))
      have hc1 := hc_6 hc eu
      have hdom : ∀ y, u_9 y = none ↔ w y = none := fun y => by rw [eu]; exact up_dom a6
      refine lv_if_ne (tgt := 38) hx hb d_HR_exception_32 (by decide) (fun h32 => ?_) (fun h32 => ?_)
      · have hsp : 0 < wd.length ∧ hy_sp lg wd := ⟨hpos, bl_t hv6 h32⟩
        have hll : (hy_let lg wd).length = wd.length := List.length_map _
        have hcl : hr_c G u_9 r B (fun k => if k = 6 then g6 else F k) (nI (hy_tot Ps)) (nI ml.length) (nI (hy_let lg wd).length) (nI pl.length) := by rw [hll]; exact hc1
        have hr1 := hc1.1
        have hrt := row_tail (hrow hsp.2)
        refine lv_aload_n hx hb d_HR_exception_38 rfl (lv_at hl 0 rfl) ?_
        refine lv_iload_n hx hb d_HR_exception_39 rfl (lv_at hl 1 rfl) ?_
        refine ct_goi hW (ct_runV (As := [.int (nI i)]) (rest := []) (q := (R_HR, F_HR, 13)) S hE hW (c_HR_exceptionWithWordsLetters l G _ _ r B E (fun k => if k = 6 then g6 else F k) (nI (hy_tot Ps)) (nI ml.length) (nI pl.length) i tg ta Ts (hy_let lg wd) hcl hs.1.2.2.1 hs.2.2.2 wts wT hrt (by omega) (by omega)) hr1 rfl kc_HR_exceptionWithWordsLetters kz_HR k_HR_127 ki_HR_exceptionWithWordsLetters kv_HR_exceptionWithWordsLetters kd_HR_exceptionWithWordsLetters ⟨Nat.le_of_ble_eq_true rfl, Nat.le_of_ble_eq_true rfl⟩ hl.1 (Nat.le_of_ble_eq_true rfl) d_HR_exception_40 ⟨Nat.le_of_ble_eq_true rfl, Nat.le_of_ble_eq_true rfl⟩) (fun v_14 u_12 H locs hp_13 hW => ?_)
        obtain ⟨hfm, hu_15⟩ := hp_13
        rw [hu_15] at hW
        obtain ⟨mo2, haT, he2⟩ := id hs.1.2.2.1
        have htl := hs.2.2.2.1
        refine lv_istore_n (lv' := [(3, .int v_14), (0, .ref r), (1, .int (nI i)), (2, .int y)]) hx hb d_HR_exception_43 rfl hl (by decide) rfl (fun ls hl => ?_)
        refine lv_iload_n hx hb d_HR_exception_44 rfl (lv_at hl 0 rfl) ?_
        refine lv_iconst (v := -1) hx hb d_HR_exception_45 (by decide) ?_
        refine lv_icmp_eq (tgt := 66) hx hb d_HR_exception_46 (by decide) (fun h46 => ?_) (fun h46 => ?_)
        · have hfm1 : fm_ Ts (hy_tm i (hy_let lg wd)) (-1) := by rw [h46] at hfm; exact hfm
          refine lv_aload_n hx hb d_HR_exception_66 rfl (lv_at hl 1 rfl) ?_
          refine wd_get S i_HR hK hW hr1 rfl 2 (by decide) k_HR_19 rfl rfl d_HR_exception_67 ?_
          refine ct_goi hW (ct_runV (As := []) (rest := []) (q := (R_AL, F_AL, 3)) S hE hW (c_AL_size l G _ _ (B 2) (E 2) (nI ta.length) mo2 haT) haT rfl kc_AL_size kz_AL k_HR_54 ki_AL_size kv_AL_size kd_AL_size ⟨Nat.le_of_ble_eq_true rfl, Nat.le_of_ble_eq_true rfl⟩ hl.1 (Nat.le_of_ble_eq_true rfl) d_HR_exception_70 ⟨Nat.le_of_ble_eq_true rfl, Nat.le_of_ble_eq_true rfl⟩) (fun v_18 u_16 H locs hp_17 hW => ?_)
          obtain ⟨hv3, hu_19⟩ := hp_17
          rw [hu_19] at hW
          rw [hv3, htl]
          refine lv_bipush (v := 40) hx hb d_HR_exception_73 (by decide) ?_
          refine lv_icmp_lt (tgt := 81) hx hb d_HR_exception_75 (by decide) (fun h75 => ?_) (fun h75 => ?_)
          · have h40 : Ts.length < 40 := (nI_ltI (a := Ts.length) (b := 40) (by omega) (by omega)).mp h75
            have a6 := hc1.2.2.2.2.1
            refine lv_aload_n hx hb d_HR_exception_81 rfl (lv_at hl 1 rfl) ?_
            refine wd_get S i_HR hK hW hr1 rfl 2 (by decide) k_HR_19 rfl rfl d_HR_exception_82 ?_
            refine wd_new S i_To t_To t_To_ok k_HR_131 kt_To kz_To hK hW (ci := 3) rfl (fs := [.int 0, .null, .int 0]) (fun j hj => by rcases (show j = 0 ∨ j = 1 ∨ j = 2 by omega) with rfl | rfl | rfl <;> rfl) (Nat.le_of_ble_eq_true rfl) (Nat.le_of_ble_eq_true rfl) d_HR_exception_85 (fun q H hq w_20 ew_20 hW => ?_)
            have cq : w_20 q = some (.inr (3, [.int 0, .null, .int 0])) := wd_here ew_20
            have hr1 := wd_keep ew_20 (wd_neN hr1 hq) hr1
            have a6 := wd_keep ew_20 (wd_neN a6 hq) a6
            have hqo := hq
            refine lv_dup hx hb d_HR_exception_88 rfl ?_
            refine lv_iload_n hx hb d_HR_exception_89 rfl (lv_at hl 2 rfl) ?_
            refine lv_aload_n hx hb d_HR_exception_90 rfl (lv_at hl 1 rfl) ?_
            refine wd_get S i_HR hK hW hr1 rfl 9 (by decide) k_HR_42 rfl rfl d_HR_exception_91 ?_
            refine lv_iconst (v := 1) hx hb d_HR_exception_94 (by decide) ?_
            refine lv_aload_n hx hb d_HR_exception_95 rfl (lv_at hl 1 rfl) ?_
            refine wd_get S i_HR hK hW hr1 rfl 8 (by decide) k_HR_39 rfl rfl d_HR_exception_96 ?_
            refine lv_iconst (v := 1) hx hb d_HR_exception_99 (by decide) ?_
            refine lv_iadd hx hb d_HR_exception_100 ?_
            rw [nI_1]
            refine ct_goq hW (ct_runS (As := [.ref (B 6), .int 1, .int (nI (wd.length + 1))]) (rest := [.int (nI i), .ref q, .ref q, .ref (B 2)]) S hE hW (c_Ar_copyOfRange l G _ _ (B 6) 32 wd.length g6 a6 (by omega) (by omega)) kc_Ar_copyOfRange kz_Ar k_HR_136 ks_Ar_copyOfRange kd_Ar_copyOfRange ⟨Nat.le_of_ble_eq_true rfl, Nat.le_of_ble_eq_true rfl⟩ hl.1 (Nat.le_of_ble_eq_true rfl) d_HR_exception_101 ⟨Nat.le_of_ble_eq_true rfl, Nat.le_of_ble_eq_true rfl⟩) (fun v_23 u_21 H locs hp_22 hW => ?_)
            obtain ⟨b2, fb, hvb, hb0, eb, hfb⟩ := hp_22
            rw [hvb]
            refine W.eq (g2 := F0 m 104 ls [.ref b2, .int (nI i), .ref q, .ref q, .ref (B 2)]) rfl ?_
            have hqb : q ≠ b2 := wd_neN cq hb0
            rw [ew_20, va_up_ne _ _ hqb.symm] at hb0
            have cq := wd_keep eb hqb cq
            have cb := wd_here eb
            refine lv_iload_n hx hb d_HR_exception_104 rfl (lv_at hl 3 rfl) ?_
            refine ct_gov hW (ct_runI (As := [.int (nI i), .ref b2, .int y]) (rest := [.ref q, .ref (B 2)]) S hE hW (c_To_init l G _ _ q b2 0 (nI i) y cq) kc_To_init kz_To k_HR_142 ki_To_init rfl kd_To_init ⟨Nat.le_of_ble_eq_true rfl, Nat.le_of_ble_eq_true rfl⟩ hl.1 (Nat.le_of_ble_eq_true rfl) d_HR_exception_105 ⟨Nat.le_of_ble_eq_true rfl, Nat.le_of_ble_eq_true rfl⟩) (fun u_24 H locs hp_25 hW => ?_)
            have cq := wd_here hp_25
            have cb := wd_keep hp_25 hqb.symm cb
            have hk1 : ∀ y, u_9 y ≠ none → u_24 y = u_9 y := fun y hy => by rw [hp_25, va_up_ne _ _ (fun h => hy (by rw [h]; exact hq)), eb, va_up_ne _ _ (fun h => hy (by rw [h]; exact hb0)), ew_20, va_up_ne _ _ (fun h => hy (by rw [h]; exact hq))]
            have halj : al_ G u_24 (B 2) (E 2) ta := al_keep hs.1.2.2.1 (hk1 _ (wd_some hs.1.2.2.1.choose_spec.1)) (fun h => hk1 _ h)
            have hob : ∀ y ∈ ta, ob_ u_24 y := fun y hy => by obtain ⟨ci, fs, g1, g2⟩ := ta_obs hs.2.2.2 y hy; exact ⟨ci, fs, (hk1 _ (wd_some g1)).trans g1, g2⟩
            have haJ := halj.choose_spec.1
            refine ct_goi hW (ct_runV (As := [.ref q]) (rest := []) (q := (R_AL, F_AL, 3)) S hE hW (c_AL_add1 l G _ _ (B 2) (E 2) q ta halj (by omega) hob ⟨3, _, cq, by simp⟩) haJ rfl kc_AL_add1 kz_AL k_HR_61 ki_AL_add1 kv_AL_add1 kd_AL_add1 ⟨Nat.le_of_ble_eq_true rfl, Nat.le_of_ble_eq_true rfl⟩ hl.1 (Nat.le_of_ble_eq_true rfl) d_HR_exception_108 ⟨Nat.le_of_ble_eq_true rfl, Nat.le_of_ble_eq_true rfl⟩) (fun v_29 u_27 H locs hp_28 hW => ?_)
            obtain ⟨hv1, e2, he2, hal2, hne2, hk2⟩ := hp_28
            have heq : u_9 e2 ≠ none → e2 = E 2 := fun h => he2.elim id (fun h2 => absurd ((hk1 e2 h).symm.trans h2).symm (Ne.symm h))
            have hEt : u_9 (E 2) ≠ none → tg (E 2) = 11 + 2 := hs.1.2.2.2 2 (by omega)
            have hk : ∀ y, u_9 y ≠ none → tg y ≠ 2 + 2 → tg y ≠ 11 + 2 → u_27 y = u_9 y := fun y hy h1 h2 => by rw [hk2 y (fun h => h1 (by rw [h]; exact hg.2 2 (by omega))) (fun h => h2 (by rw [h, heq (by rw [← h]; exact hy)]; exact hEt (by rw [← heq (by rw [← h]; exact hy), ← h]; exact hy))), hk1 y hy]
            have hE0 : E 2 = G.2.2 0 ∨ u_9 (E 2) ≠ none := hs.1.2.2.1.choose_spec.2.elim (fun h => Or.inl h.1) (fun h => by obtain ⟨cap, f, h1, -⟩ := h; exact Or.inr (wd_some h1))
            have hz9 := wd_z0 hE hW
            have nn : ∀ y, u_9 y = none → u_24 y ≠ none → y ≠ e2 := fun y h1 h2 h3 => he2.elim (fun h => hE0.elim (fun k => hne2 (by rw [h, k]; exact hz9)) (fun k => k (by rw [← h, ← h3]; exact h1))) (fun h => h2 (by rw [h3]; exact h))
            have nq := nn q hq (wd_some cq)
            have nb2 := nn b2 hb0 (wd_some cb)
            obtain ⟨tg2, htg⟩ : ∃ f : Nat → Nat, f = va_up (va_up (va_up tg e2 13) q (10000 + 2 * q)) b2 (10001 + 2 * q) := ⟨_, rfl⟩
            have hx2 : ex_ u_9 tg tg2 := fun y hy => by rw [htg, va_up_ne _ _ (fun h => hy (by rw [h]; exact hb0)), va_up_ne _ _ (fun h => hy (by rw [h]; exact hq))]; exact tg_e hy (fun h9 => by rw [heq (by rw [← h9]; exact hy)]; exact hEt (by rw [← heq (by rw [← h9]; exact hy), ← h9]; exact hy))
            obtain ⟨hcF, hgF, k0, k1, k2, kE, kl, kp, kt⟩ := hs_gr 2 hs hc1 hg wL wP (by omega) hk hx2 hz9
            have te : tg2 e2 = 11 + 2 := by rw [htg, va_up_ne _ _ (Ne.symm nb2), va_up_ne _ _ (Ne.symm nq), va_up_self]
            have nB : ∀ y, u_9 y = none → y ≠ B 2 := fun y h1 h2 => by rw [h2] at h1; obtain ⟨mo, h9, -⟩ := hs.1.2.2.1; rw [h9] at h1; cases h1
            have c2q := (hk2 q (nB q hq) nq).trans cq
            have c2b2 := (hk2 b2 (nB b2 hb0) nb2).trans cb
            have tq : tg2 q = 10000 + 2 * q := by rw [htg, va_up_ne _ _ hqb, va_up_self]
            have tb : tg2 b2 = 10001 + 2 * q := by rw [htg, va_up_self]
            have hnq : q ∉ ta := fun h => by obtain ⟨ci, fs, g1, -⟩ := ta_obs hs.2.2.2 q h; rw [hq] at g1; cases g1
            have c2b3 : u_27 b2 = some (.inl (G.2.1 0, (hy_let lg wd).length, .inl fb)) := by rw [hll]; exact c2b2
            have hta2 := ta_push (t := (i, hy_let lg wd, y)) (f := fb) kt ⟨c2q, c2b3, li_take hrt (fun j hj => by show fb j = g6 (j + 1); rw [hfb j (by rw [← hll]; exact hj), Nat.add_comm])⟩ tq tb hnq
            have hr0 := hcF.1
            have haJ := hal2.choose_spec.1
            refine lv_pop hx hb d_HR_exception_111 rfl ?_
            refine lv_aload_n hx hb d_HR_exception_112 rfl (lv_at hl 1 rfl) ?_
            refine wd_get S i_HR hK hW hr0 rfl 2 (by decide) k_HR_19 rfl rfl d_HR_exception_113 ?_
            refine ct_goi hW (ct_runV (As := []) (rest := []) (q := (R_AL, F_AL, 3)) S hE hW (c_AL_size l G _ _ (B 2) e2 (nI (ta ++ [q]).length) _ haJ) haJ rfl kc_AL_size kz_AL k_HR_54 ki_AL_size kv_AL_size kd_AL_size ⟨Nat.le_of_ble_eq_true rfl, Nat.le_of_ble_eq_true rfl⟩ hl.1 (Nat.le_of_ble_eq_true rfl) d_HR_exception_116 ⟨Nat.le_of_ble_eq_true rfl, Nat.le_of_ble_eq_true rfl⟩) (fun v_32 u_30 H locs hp_31 hW => ?_)
            obtain ⟨hv7, hu_33⟩ := hp_31
            rw [hu_33] at hW
            rw [hv7, List.length_append, show nI (ta.length + [q].length) = nI (ta.length + 1) from rfl]
            refine lv_iconst (v := 1) hx hb d_HR_exception_119 (by decide) ?_
            refine lv_isub hx hb d_HR_exception_120 ?_
            rw [nI_pred, htl]
            exact ct_iret S hr rfl hlocks hW (⟨_, tg2, Or.inr ⟨hnm0, i, lg, rfl, hlgi, Or.inr (Or.inr (Or.inr ⟨hsp, hfm1, h40, rfl, rfl⟩))⟩, ⟨B, fun k => if k = 2 then e2 else E k, _, la, pa, ta ++ [q], hcF, hgF, ⟨k0 (by omega), k1 (by omega), hal2, fun i hi hn => tg_E hi hn te kE⟩, kl, kp, hta2, hml, hmd, hwd, hpl⟩, fun y hy => hx2 y (fun z => hy ((hdom y).mp z)), kp_tr hkp (fun y hy hq9 => hk y hy (by have hq9 : 500 ≤ tg y ∧ tg y < 600 := hq9; omega) (by have hq9 : 500 ≤ tg y ∧ tg y < 600 := hq9; omega))⟩) (Nat.le_of_ble_eq_true rfl) (Nat.le_of_ble_eq_true rfl) d_HR_exception_121
          · refine lv_bipush (v := -2) hx hb d_HR_exception_78 (by decide) ?_
            exact ct_iret S hr rfl hlocks hW (⟨_, tg, Or.inr ⟨hnm0, i, lg, rfl, hlgi, Or.inr (Or.inr (Or.inl ⟨hsp, hfm1, fun q => h75 (nI_lt (b := 40) q (by omega)), rfl, rfl⟩))⟩, ⟨B, E, _, la, pa, ta, hc1, hg, hs.1, hs.2.1, hs.2.2.1, hs.2.2.2, hml, hmd, hwd, hpl⟩, ex_rf, hkp⟩) (Nat.le_of_ble_eq_true rfl) (Nat.le_of_ble_eq_true rfl) d_HR_exception_80
        · obtain ⟨k, p, exv, hpk, hpm, hbef⟩ : ∃ (k : Nat) (p : hy_T), v_14 = nI k ∧ Ts[k]? = some p ∧ hy_tm i (hy_let lg wd) p ∧ ∀ (j : Nat) (y : hy_T), j < k → Ts[j]? = some y → ¬ hy_tm i (hy_let lg wd) y := hfm.elim (fun q => absurd q.1 h46) id
          have hkl : k < Ts.length := (List.getElem?_eq_some_iff.mp hpk).1
          obtain ⟨a2, b2, f2, e2, ⟨t1, t2, t3⟩, tg1, tg3⟩ := hs.2.2.2.2.2 k p hpk
          refine lv_aload_n hx hb d_HR_exception_49 rfl (lv_at hl 1 rfl) ?_
          refine wd_get S i_HR hK hW hr1 rfl 2 (by decide) k_HR_19 rfl rfl d_HR_exception_50 ?_
          refine lv_iload_n hx hb d_HR_exception_53 rfl (lv_at hl 0 rfl) ?_
          rw [exv]
          refine ct_goq hW (ct_runV (As := [.int (nI k)]) (rest := []) (q := (R_AL, F_AL, 3)) S hE hW (c_AL_get l G _ _ (B 2) (E 2) ta k hs.1.2.2.1 (by omega)) haT rfl kc_AL_get kz_AL k_HR_75 ki_AL_get kv_AL_get kd_AL_get ⟨Nat.le_of_ble_eq_true rfl, Nat.le_of_ble_eq_true rfl⟩ hl.1 (Nat.le_of_ble_eq_true rfl) d_HR_exception_54 ⟨Nat.le_of_ble_eq_true rfl, Nat.le_of_ble_eq_true rfl⟩) (fun v_36 u_34 H locs hp_35 hW => ?_)
          obtain ⟨hvg2, hu_37⟩ := hp_35
          rw [hu_37] at hW
          rw [hvg2, e2]
          refine W.eq (g2 := F0 m 57 ls [.ref a2]) rfl ?_
          refine wd_cast S (T := F_To) (N := 3) k_HR_131 hK hW t1 rfl d_HR_exception_57 ?_
          have t0 := t1
          refine lv_iload_n hx hb d_HR_exception_60 rfl (lv_at hl 3 rfl) ?_
          refine wd_put S i_To t_To t_To_ok n_To hK hW t1 rfl 2 (by decide) k_HR_133 rfl rfl rfl rfl (Nat.le_of_ble_eq_true rfl) d_HR_exception_61 (fun H locs w_38 ew_38 hW => ?_)
          have t1 : w_38 a2 = some (.inr (3, [.int (nI p.1), .ref b2, .int y])) := wd_here ew_38
          have hk9 : ∀ y, u_9 y ≠ none → y ≠ a2 → w_38 y = u_9 y := fun y _ hq => by rw [ew_38, va_up_ne _ _ hq]
          have hd9 : ∀ y, w_38 y = none ↔ u_9 y = none := fun y => by rw [ew_38]; exact up_dom t0
          have hta2 := ta_upd (t2 := (p.1, p.2.1, y)) hs.2.2.2 e2 tg1 tg3 hk9 ⟨t1, by rw [hk9 b2 (wd_some t2) (tg_ne (tg := tg) (by omega))]; exact t2, t3⟩
          have hs := hs_ta hs wL wP hB3 (fun y hy hq => hk9 y hy (fun z => hq (by rw [z]; omega))) hd9 hta2
          have hkp := kp_tr hkp (fun y hy hq => hk9 y hy (fun z => by have hq : 500 ≤ tg y ∧ tg y < 600 := hq; rw [z] at hq; omega))
          have hcF := hc_kp hc1 hg (fun y hy hq => hk9 y hy (fun z => by rw [z] at hq; omega))
          refine lv_iload_n hx hb d_HR_exception_64 rfl (lv_at hl 0 rfl) ?_
          rw [exv]
          exact ct_iret S hr rfl hlocks hW (⟨_, tg, Or.inr ⟨hnm0, i, lg, rfl, hlgi, Or.inr (Or.inl ⟨hsp, k, p, Or.inr ⟨k, p, rfl, hpk, hpm, hbef⟩, hkl, hpk, rfl, rfl⟩)⟩, ⟨B, E, _, la, pa, ta, hcF, hg, hs.1, hs.2.1, hs.2.2.1, hs.2.2.2, hml, hmd, hwd, hpl⟩, ex_rf, hkp⟩) (Nat.le_of_ble_eq_true rfl) (Nat.le_of_ble_eq_true rfl) d_HR_exception_65
      · refine lv_bipush (v := -3) hx hb d_HR_exception_35 (by decide) ?_
        exact ct_iret S hr rfl hlocks hW (⟨_, tg, Or.inr ⟨hnm0, i, lg, rfl, hlgi, Or.inl ⟨fun q => bl_f hv6 h32 q.2, rfl, rfl⟩⟩, ⟨B, E, _, la, pa, ta, hc1, hg, hs.1, hs.2.1, hs.2.2.1, hs.2.2.2, hml, hmd, hwd, hpl⟩, ex_rf, hkp⟩) (Nat.le_of_ble_eq_true rfl) (Nat.le_of_ble_eq_true rfl) d_HR_exception_37
  · refine lv_iconst (v := -1) hx hb d_HR_exception_8 (by decide) ?_
    exact ct_iret S hr rfl hlocks hW (⟨_, tg, Or.inl ⟨fun q => bl_f hv h5 q, rfl, rfl⟩, h, ex_rf, kp_rf⟩) (Nat.le_of_ble_eq_true rfl) (Nat.le_of_ble_eq_true rfl) d_HR_exception_9

set_option maxHeartbeats 4000000 in
set_option maxRecDepth 100000 in
/-- HyphenRows() -/
theorem c_HR_init (l : Launch) (G : ev_G) (w : wd_M) (sz : Nat) (tg : Nat → Nat) (r : Nat) (hr0 : w r = some (.inr (0, [.null, .null, .null, .int 0, .null, .null, .int 0, .null, .int 0, .null, .null, .null, .int 0]))) : ct_v l y_HR_init b_HR_init 1 none (rm_ 4 9 200) G w sz [.ref r] (fun u => ∃ tg2 : Nat → Nat, hr_ G u tg2 r [] [] [] [] [] [] [] ∧ (∀ x, w x ≠ none → x ≠ r → tg2 x = tg x) ∧ ∀ x, w x ≠ none → x ≠ r → u x = w x) := by
  refine ct_enter (by decide +kernel) (Nat.le_of_ble_eq_true rfl) ?_
  intro p_ e_ s m below meth c_ hsz S hr hlocks hname hE hW ls hl
  have S : CallFix p_ m c_ b_HR_init 1 s _ lw_good "HyphenRows" := S
  have hx := S.1
  have hb := S.2.1
  have hK := hE.1
  have hl : lv_has ls 1 [(0, .ref r)] := hl
  refine lv_aload_n hx hb d_HR_init_0 rfl (lv_at hl 0 rfl) ?_
  refine W.objInit hx hb S.2.2.2.1 (S.2.2.2.2 _ k_HR_1) (S.2.2.2.2 _ ki_Oj_init) (S.2.2.2.2 _ kc_Oj_init) rfl (by rw [S.2.2.1]; exact hl.1) rfl d_HR_init_1 (Nat.le_of_ble_eq_true rfl) (Nat.le_of_ble_eq_true rfl) ?_
  refine W.eq (g2 := F0 m 4 ls []) rfl ?_
  refine lv_aload_n hx hb d_HR_init_4 rfl (lv_at hl 0 rfl) ?_
  refine wd_new S i_AL t_AL t_AL_ok k_HR_7 kt_AL kz_AL hK hW (ci := 4) rfl (fs := [.null, .int 0, .int 0]) (fun j hj => by rcases (show j = 0 ∨ j = 1 ∨ j = 2 by omega) with rfl | rfl | rfl <;> rfl) (Nat.le_of_ble_eq_true rfl) (Nat.le_of_ble_eq_true rfl) d_HR_init_5 (fun q0 H hq0 w_1 ew_1 hW => ?_)
  have n_r_q0 : r ≠ q0 := wd_neN hr0 hq0
  have zq0 : w q0 = none := by have h9 := hq0; exact h9
  have hr0 := wd_keep ew_1 n_r_q0 hr0
  have cq0 : w_1 q0 = some (.inr (4, [.null, .int 0, .int 0])) := wd_here ew_1
  refine lv_dup hx hb d_HR_init_8 rfl ?_
  refine ct_gov hW (ct_runI (As := []) (rest := [.ref q0, .ref r]) S hE hW (c_AL_init l G _ _ q0 cq0) kc_AL_init kz_AL k_HR_9 ki_AL_init rfl kd_AL_init ⟨Nat.le_of_ble_eq_true rfl, Nat.le_of_ble_eq_true rfl⟩ hl.1 (Nat.le_of_ble_eq_true rfl) d_HR_init_9 ⟨Nat.le_of_ble_eq_true rfl, Nat.le_of_ble_eq_true rfl⟩) (fun u_2 H locs hp_3 hW => ?_)
  have hr0 := wd_keep hp_3 n_r_q0 hr0
  have cq0 := wd_here hp_3
  have eu_2 := hp_3
  refine wd_putF S i_HR t_HR t_HR_ok n_HR hK hW hr0 rfl 0 (by decide) k_HR_10 rfl rfl hname rfl rfl rfl (Nat.le_of_ble_eq_true rfl) d_HR_init_12 (fun H locs w_5 ew_5 hW => ?_)
  have cq0 := wd_keep ew_5 (Ne.symm n_r_q0) cq0
  have hr0 : w_5 r = some (.inr (0, [.ref q0, .null, .null, .int 0, .null, .null, .int 0, .null, .int 0, .null, .null, .null, .int 0])) := wd_here ew_5
  refine lv_aload_n hx hb d_HR_init_15 rfl (lv_at hl 0 rfl) ?_
  refine wd_new S i_AL t_AL t_AL_ok k_HR_7 kt_AL kz_AL hK hW (ci := 4) rfl (fs := [.null, .int 0, .int 0]) (fun j hj => by rcases (show j = 0 ∨ j = 1 ∨ j = 2 by omega) with rfl | rfl | rfl <;> rfl) (Nat.le_of_ble_eq_true rfl) (Nat.le_of_ble_eq_true rfl) d_HR_init_16 (fun q1 H hq1 w_6 ew_6 hW => ?_)
  have n_q0_q1 : q0 ≠ q1 := wd_neN cq0 hq1
  have n_r_q1 : r ≠ q1 := wd_neN hr0 hq1
  have zq1 : w q1 = none := by have h9 := hq1; rw [ew_5, va_up_ne _ _ n_r_q1.symm, eu_2, va_up_ne _ _ n_q0_q1.symm, ew_1, va_up_ne _ _ n_q0_q1.symm] at h9; exact h9
  have hr0 := wd_keep ew_6 n_r_q1 hr0
  have cq0 := wd_keep ew_6 n_q0_q1 cq0
  have cq1 : w_6 q1 = some (.inr (4, [.null, .int 0, .int 0])) := wd_here ew_6
  refine lv_dup hx hb d_HR_init_19 rfl ?_
  refine ct_gov hW (ct_runI (As := []) (rest := [.ref q1, .ref r]) S hE hW (c_AL_init l G _ _ q1 cq1) kc_AL_init kz_AL k_HR_9 ki_AL_init rfl kd_AL_init ⟨Nat.le_of_ble_eq_true rfl, Nat.le_of_ble_eq_true rfl⟩ hl.1 (Nat.le_of_ble_eq_true rfl) d_HR_init_20 ⟨Nat.le_of_ble_eq_true rfl, Nat.le_of_ble_eq_true rfl⟩) (fun u_7 H locs hp_8 hW => ?_)
  have hr0 := wd_keep hp_8 n_r_q1 hr0
  have cq0 := wd_keep hp_8 n_q0_q1 cq0
  have cq1 := wd_here hp_8
  have eu_7 := hp_8
  refine wd_putF S i_HR t_HR t_HR_ok n_HR hK hW hr0 rfl 1 (by decide) k_HR_16 rfl rfl hname rfl rfl rfl (Nat.le_of_ble_eq_true rfl) d_HR_init_23 (fun H locs w_10 ew_10 hW => ?_)
  have cq0 := wd_keep ew_10 (Ne.symm n_r_q0) cq0
  have cq1 := wd_keep ew_10 (Ne.symm n_r_q1) cq1
  have hr0 : w_10 r = some (.inr (0, [.ref q0, .ref q1, .null, .int 0, .null, .null, .int 0, .null, .int 0, .null, .null, .null, .int 0])) := wd_here ew_10
  refine lv_aload_n hx hb d_HR_init_26 rfl (lv_at hl 0 rfl) ?_
  refine wd_new S i_AL t_AL t_AL_ok k_HR_7 kt_AL kz_AL hK hW (ci := 4) rfl (fs := [.null, .int 0, .int 0]) (fun j hj => by rcases (show j = 0 ∨ j = 1 ∨ j = 2 by omega) with rfl | rfl | rfl <;> rfl) (Nat.le_of_ble_eq_true rfl) (Nat.le_of_ble_eq_true rfl) d_HR_init_27 (fun q2 H hq2 w_11 ew_11 hW => ?_)
  have n_q0_q2 : q0 ≠ q2 := wd_neN cq0 hq2
  have n_q1_q2 : q1 ≠ q2 := wd_neN cq1 hq2
  have n_r_q2 : r ≠ q2 := wd_neN hr0 hq2
  have zq2 : w q2 = none := by have h9 := hq2; rw [ew_10, va_up_ne _ _ n_r_q2.symm, eu_7, va_up_ne _ _ n_q1_q2.symm, ew_6, va_up_ne _ _ n_q1_q2.symm, ew_5, va_up_ne _ _ n_r_q2.symm, eu_2, va_up_ne _ _ n_q0_q2.symm, ew_1, va_up_ne _ _ n_q0_q2.symm] at h9; exact h9
  have hr0 := wd_keep ew_11 n_r_q2 hr0
  have cq0 := wd_keep ew_11 n_q0_q2 cq0
  have cq1 := wd_keep ew_11 n_q1_q2 cq1
  have cq2 : w_11 q2 = some (.inr (4, [.null, .int 0, .int 0])) := wd_here ew_11
  refine lv_dup hx hb d_HR_init_30 rfl ?_
  refine ct_gov hW (ct_runI (As := []) (rest := [.ref q2, .ref r]) S hE hW (c_AL_init l G _ _ q2 cq2) kc_AL_init kz_AL k_HR_9 ki_AL_init rfl kd_AL_init ⟨Nat.le_of_ble_eq_true rfl, Nat.le_of_ble_eq_true rfl⟩ hl.1 (Nat.le_of_ble_eq_true rfl) d_HR_init_31 ⟨Nat.le_of_ble_eq_true rfl, Nat.le_of_ble_eq_true rfl⟩) (fun u_12 H locs hp_13 hW => ?_)
  have hr0 := wd_keep hp_13 n_r_q2 hr0
  have cq0 := wd_keep hp_13 n_q0_q2 cq0
  have cq1 := wd_keep hp_13 n_q1_q2 cq1
  have cq2 := wd_here hp_13
  have eu_12 := hp_13
  refine wd_putF S i_HR t_HR t_HR_ok n_HR hK hW hr0 rfl 2 (by decide) k_HR_19 rfl rfl hname rfl rfl rfl (Nat.le_of_ble_eq_true rfl) d_HR_init_34 (fun H locs w_15 ew_15 hW => ?_)
  have cq0 := wd_keep ew_15 (Ne.symm n_r_q0) cq0
  have cq1 := wd_keep ew_15 (Ne.symm n_r_q1) cq1
  have cq2 := wd_keep ew_15 (Ne.symm n_r_q2) cq2
  have hr0 : w_15 r = some (.inr (0, [.ref q0, .ref q1, .ref q2, .int 0, .null, .null, .int 0, .null, .int 0, .null, .null, .null, .int 0])) := wd_here ew_15
  refine lv_aload_n hx hb d_HR_init_37 rfl (lv_at hl 0 rfl) ?_
  refine lv_iconst (v := 0) hx hb d_HR_init_38 (by decide) ?_
  refine wd_put S i_HR t_HR t_HR_ok n_HR hK hW hr0 rfl 3 (by decide) k_HR_22 rfl rfl rfl rfl (Nat.le_of_ble_eq_true rfl) d_HR_init_39 (fun H locs w_16 ew_16 hW => ?_)
  have cq0 := wd_keep ew_16 (Ne.symm n_r_q0) cq0
  have cq1 := wd_keep ew_16 (Ne.symm n_r_q1) cq1
  have cq2 := wd_keep ew_16 (Ne.symm n_r_q2) cq2
  have hr0 : w_16 r = some (.inr (0, [.ref q0, .ref q1, .ref q2, .int 0, .null, .null, .int 0, .null, .int 0, .null, .null, .null, .int 0])) := wd_here ew_16
  refine lv_aload_n hx hb d_HR_init_42 rfl (lv_at hl 0 rfl) ?_
  refine lv_bipush (v := 12) hx hb d_HR_init_43 (by decide) ?_
  refine wd_newa S (atype := .int) ka_int rfl hK hW 0 rfl (n := 12) (N' := 12) (a0 := (12, .inl (fun _ => 0))) (fun _ => rfl) (by decide) (by decide) (by decide) (Nat.le_of_ble_eq_true rfl) (Nat.le_of_ble_eq_true rfl) d_HR_init_45 (fun q3 H hq3 w_17 ew_17 hW => ?_)
  have n_q0_q3 : q0 ≠ q3 := wd_neN cq0 hq3
  have n_q1_q3 : q1 ≠ q3 := wd_neN cq1 hq3
  have n_q2_q3 : q2 ≠ q3 := wd_neN cq2 hq3
  have n_r_q3 : r ≠ q3 := wd_neN hr0 hq3
  have zq3 : w q3 = none := by have h9 := hq3; rw [ew_16, va_up_ne _ _ n_r_q3.symm, ew_15, va_up_ne _ _ n_r_q3.symm, eu_12, va_up_ne _ _ n_q2_q3.symm, ew_11, va_up_ne _ _ n_q2_q3.symm, ew_10, va_up_ne _ _ n_r_q3.symm, eu_7, va_up_ne _ _ n_q1_q3.symm, ew_6, va_up_ne _ _ n_q1_q3.symm, ew_5, va_up_ne _ _ n_r_q3.symm, eu_2, va_up_ne _ _ n_q0_q3.symm, ew_1, va_up_ne _ _ n_q0_q3.symm] at h9; exact h9
  have hr0 := wd_keep ew_17 n_r_q3 hr0
  have cq0 := wd_keep ew_17 n_q0_q3 cq0
  have cq1 := wd_keep ew_17 n_q1_q3 cq1
  have cq2 := wd_keep ew_17 n_q2_q3 cq2
  have cq3 : w_17 q3 = some (.inl (G.2.1 0, 12, .inl (fun _ => 0))) := wd_here ew_17
  refine wd_putF S i_HR t_HR t_HR_ok n_HR hK hW hr0 rfl 4 (by decide) k_HR_26 rfl rfl hname rfl rfl rfl (Nat.le_of_ble_eq_true rfl) d_HR_init_47 (fun H locs w_18 ew_18 hW => ?_)
  have cq0 := wd_keep ew_18 (Ne.symm n_r_q0) cq0
  have cq1 := wd_keep ew_18 (Ne.symm n_r_q1) cq1
  have cq2 := wd_keep ew_18 (Ne.symm n_r_q2) cq2
  have cq3 := wd_keep ew_18 (Ne.symm n_r_q3) cq3
  have hr0 : w_18 r = some (.inr (0, [.ref q0, .ref q1, .ref q2, .int 0, .ref q3, .null, .int 0, .null, .int 0, .null, .null, .null, .int 0])) := wd_here ew_18
  refine lv_aload_n hx hb d_HR_init_50 rfl (lv_at hl 0 rfl) ?_
  refine lv_bipush (v := 13) hx hb d_HR_init_51 (by decide) ?_
  refine wd_newa S (atype := .int) ka_int rfl hK hW 0 rfl (n := 13) (N' := 13) (a0 := (13, .inl (fun _ => 0))) (fun _ => rfl) (by decide) (by decide) (by decide) (Nat.le_of_ble_eq_true rfl) (Nat.le_of_ble_eq_true rfl) d_HR_init_53 (fun q4 H hq4 w_19 ew_19 hW => ?_)
  have n_q0_q4 : q0 ≠ q4 := wd_neN cq0 hq4
  have n_q1_q4 : q1 ≠ q4 := wd_neN cq1 hq4
  have n_q2_q4 : q2 ≠ q4 := wd_neN cq2 hq4
  have n_q3_q4 : q3 ≠ q4 := wd_neN cq3 hq4
  have n_r_q4 : r ≠ q4 := wd_neN hr0 hq4
  have zq4 : w q4 = none := by have h9 := hq4; rw [ew_18, va_up_ne _ _ n_r_q4.symm, ew_17, va_up_ne _ _ n_q3_q4.symm, ew_16, va_up_ne _ _ n_r_q4.symm, ew_15, va_up_ne _ _ n_r_q4.symm, eu_12, va_up_ne _ _ n_q2_q4.symm, ew_11, va_up_ne _ _ n_q2_q4.symm, ew_10, va_up_ne _ _ n_r_q4.symm, eu_7, va_up_ne _ _ n_q1_q4.symm, ew_6, va_up_ne _ _ n_q1_q4.symm, ew_5, va_up_ne _ _ n_r_q4.symm, eu_2, va_up_ne _ _ n_q0_q4.symm, ew_1, va_up_ne _ _ n_q0_q4.symm] at h9; exact h9
  have hr0 := wd_keep ew_19 n_r_q4 hr0
  have cq0 := wd_keep ew_19 n_q0_q4 cq0
  have cq1 := wd_keep ew_19 n_q1_q4 cq1
  have cq2 := wd_keep ew_19 n_q2_q4 cq2
  have cq3 := wd_keep ew_19 n_q3_q4 cq3
  have cq4 : w_19 q4 = some (.inl (G.2.1 0, 13, .inl (fun _ => 0))) := wd_here ew_19
  refine wd_putF S i_HR t_HR t_HR_ok n_HR hK hW hr0 rfl 5 (by decide) k_HR_30 rfl rfl hname rfl rfl rfl (Nat.le_of_ble_eq_true rfl) d_HR_init_55 (fun H locs w_20 ew_20 hW => ?_)
  have cq0 := wd_keep ew_20 (Ne.symm n_r_q0) cq0
  have cq1 := wd_keep ew_20 (Ne.symm n_r_q1) cq1
  have cq2 := wd_keep ew_20 (Ne.symm n_r_q2) cq2
  have cq3 := wd_keep ew_20 (Ne.symm n_r_q3) cq3
  have cq4 := wd_keep ew_20 (Ne.symm n_r_q4) cq4
  have hr0 : w_20 r = some (.inr (0, [.ref q0, .ref q1, .ref q2, .int 0, .ref q3, .ref q4, .int 0, .null, .int 0, .null, .null, .null, .int 0])) := wd_here ew_20
  refine lv_aload_n hx hb d_HR_init_58 rfl (lv_at hl 0 rfl) ?_
  refine lv_iconst (v := 0) hx hb d_HR_init_59 (by decide) ?_
  refine wd_put S i_HR t_HR t_HR_ok n_HR hK hW hr0 rfl 6 (by decide) k_HR_33 rfl rfl rfl rfl (Nat.le_of_ble_eq_true rfl) d_HR_init_60 (fun H locs w_21 ew_21 hW => ?_)
  have cq0 := wd_keep ew_21 (Ne.symm n_r_q0) cq0
  have cq1 := wd_keep ew_21 (Ne.symm n_r_q1) cq1
  have cq2 := wd_keep ew_21 (Ne.symm n_r_q2) cq2
  have cq3 := wd_keep ew_21 (Ne.symm n_r_q3) cq3
  have cq4 := wd_keep ew_21 (Ne.symm n_r_q4) cq4
  have hr0 : w_21 r = some (.inr (0, [.ref q0, .ref q1, .ref q2, .int 0, .ref q3, .ref q4, .int 0, .null, .int 0, .null, .null, .null, .int 0])) := wd_here ew_21
  refine lv_aload_n hx hb d_HR_init_63 rfl (lv_at hl 0 rfl) ?_
  refine lv_bipush (v := 30) hx hb d_HR_init_64 (by decide) ?_
  refine wd_newa S (atype := .int) ka_int rfl hK hW 0 rfl (n := 30) (N' := 30) (a0 := (30, .inl (fun _ => 0))) (fun _ => rfl) (by decide) (by decide) (by decide) (Nat.le_of_ble_eq_true rfl) (Nat.le_of_ble_eq_true rfl) d_HR_init_66 (fun q5 H hq5 w_22 ew_22 hW => ?_)
  have n_q0_q5 : q0 ≠ q5 := wd_neN cq0 hq5
  have n_q1_q5 : q1 ≠ q5 := wd_neN cq1 hq5
  have n_q2_q5 : q2 ≠ q5 := wd_neN cq2 hq5
  have n_q3_q5 : q3 ≠ q5 := wd_neN cq3 hq5
  have n_q4_q5 : q4 ≠ q5 := wd_neN cq4 hq5
  have n_r_q5 : r ≠ q5 := wd_neN hr0 hq5
  have zq5 : w q5 = none := by have h9 := hq5; rw [ew_21, va_up_ne _ _ n_r_q5.symm, ew_20, va_up_ne _ _ n_r_q5.symm, ew_19, va_up_ne _ _ n_q4_q5.symm, ew_18, va_up_ne _ _ n_r_q5.symm, ew_17, va_up_ne _ _ n_q3_q5.symm, ew_16, va_up_ne _ _ n_r_q5.symm, ew_15, va_up_ne _ _ n_r_q5.symm, eu_12, va_up_ne _ _ n_q2_q5.symm, ew_11, va_up_ne _ _ n_q2_q5.symm, ew_10, va_up_ne _ _ n_r_q5.symm, eu_7, va_up_ne _ _ n_q1_q5.symm, ew_6, va_up_ne _ _ n_q1_q5.symm, ew_5, va_up_ne _ _ n_r_q5.symm, eu_2, va_up_ne _ _ n_q0_q5.symm, ew_1, va_up_ne _ _ n_q0_q5.symm] at h9; exact h9
  have hr0 := wd_keep ew_22 n_r_q5 hr0
  have cq0 := wd_keep ew_22 n_q0_q5 cq0
  have cq1 := wd_keep ew_22 n_q1_q5 cq1
  have cq2 := wd_keep ew_22 n_q2_q5 cq2
  have cq3 := wd_keep ew_22 n_q3_q5 cq3
  have cq4 := wd_keep ew_22 n_q4_q5 cq4
  have cq5 : w_22 q5 = some (.inl (G.2.1 0, 30, .inl (fun _ => 0))) := wd_here ew_22
  refine wd_putF S i_HR t_HR t_HR_ok n_HR hK hW hr0 rfl 7 (by decide) k_HR_36 rfl rfl hname rfl rfl rfl (Nat.le_of_ble_eq_true rfl) d_HR_init_68 (fun H locs w_23 ew_23 hW => ?_)
  have cq0 := wd_keep ew_23 (Ne.symm n_r_q0) cq0
  have cq1 := wd_keep ew_23 (Ne.symm n_r_q1) cq1
  have cq2 := wd_keep ew_23 (Ne.symm n_r_q2) cq2
  have cq3 := wd_keep ew_23 (Ne.symm n_r_q3) cq3
  have cq4 := wd_keep ew_23 (Ne.symm n_r_q4) cq4
  have cq5 := wd_keep ew_23 (Ne.symm n_r_q5) cq5
  have hr0 : w_23 r = some (.inr (0, [.ref q0, .ref q1, .ref q2, .int 0, .ref q3, .ref q4, .int 0, .ref q5, .int 0, .null, .null, .null, .int 0])) := wd_here ew_23
  refine lv_aload_n hx hb d_HR_init_71 rfl (lv_at hl 0 rfl) ?_
  refine lv_iconst (v := 0) hx hb d_HR_init_72 (by decide) ?_
  refine wd_put S i_HR t_HR t_HR_ok n_HR hK hW hr0 rfl 8 (by decide) k_HR_39 rfl rfl rfl rfl (Nat.le_of_ble_eq_true rfl) d_HR_init_73 (fun H locs w_24 ew_24 hW => ?_)
  have cq0 := wd_keep ew_24 (Ne.symm n_r_q0) cq0
  have cq1 := wd_keep ew_24 (Ne.symm n_r_q1) cq1
  have cq2 := wd_keep ew_24 (Ne.symm n_r_q2) cq2
  have cq3 := wd_keep ew_24 (Ne.symm n_r_q3) cq3
  have cq4 := wd_keep ew_24 (Ne.symm n_r_q4) cq4
  have cq5 := wd_keep ew_24 (Ne.symm n_r_q5) cq5
  have hr0 : w_24 r = some (.inr (0, [.ref q0, .ref q1, .ref q2, .int 0, .ref q3, .ref q4, .int 0, .ref q5, .int 0, .null, .null, .null, .int 0])) := wd_here ew_24
  refine lv_aload_n hx hb d_HR_init_76 rfl (lv_at hl 0 rfl) ?_
  refine lv_bipush (v := 32) hx hb d_HR_init_77 (by decide) ?_
  refine wd_newa S (atype := .int) ka_int rfl hK hW 0 rfl (n := 32) (N' := 32) (a0 := (32, .inl (fun _ => 0))) (fun _ => rfl) (by decide) (by decide) (by decide) (Nat.le_of_ble_eq_true rfl) (Nat.le_of_ble_eq_true rfl) d_HR_init_79 (fun q6 H hq6 w_25 ew_25 hW => ?_)
  have n_q0_q6 : q0 ≠ q6 := wd_neN cq0 hq6
  have n_q1_q6 : q1 ≠ q6 := wd_neN cq1 hq6
  have n_q2_q6 : q2 ≠ q6 := wd_neN cq2 hq6
  have n_q3_q6 : q3 ≠ q6 := wd_neN cq3 hq6
  have n_q4_q6 : q4 ≠ q6 := wd_neN cq4 hq6
  have n_q5_q6 : q5 ≠ q6 := wd_neN cq5 hq6
  have n_r_q6 : r ≠ q6 := wd_neN hr0 hq6
  have zq6 : w q6 = none := by have h9 := hq6; rw [ew_24, va_up_ne _ _ n_r_q6.symm, ew_23, va_up_ne _ _ n_r_q6.symm, ew_22, va_up_ne _ _ n_q5_q6.symm, ew_21, va_up_ne _ _ n_r_q6.symm, ew_20, va_up_ne _ _ n_r_q6.symm, ew_19, va_up_ne _ _ n_q4_q6.symm, ew_18, va_up_ne _ _ n_r_q6.symm, ew_17, va_up_ne _ _ n_q3_q6.symm, ew_16, va_up_ne _ _ n_r_q6.symm, ew_15, va_up_ne _ _ n_r_q6.symm, eu_12, va_up_ne _ _ n_q2_q6.symm, ew_11, va_up_ne _ _ n_q2_q6.symm, ew_10, va_up_ne _ _ n_r_q6.symm, eu_7, va_up_ne _ _ n_q1_q6.symm, ew_6, va_up_ne _ _ n_q1_q6.symm, ew_5, va_up_ne _ _ n_r_q6.symm, eu_2, va_up_ne _ _ n_q0_q6.symm, ew_1, va_up_ne _ _ n_q0_q6.symm] at h9; exact h9
  have hr0 := wd_keep ew_25 n_r_q6 hr0
  have cq0 := wd_keep ew_25 n_q0_q6 cq0
  have cq1 := wd_keep ew_25 n_q1_q6 cq1
  have cq2 := wd_keep ew_25 n_q2_q6 cq2
  have cq3 := wd_keep ew_25 n_q3_q6 cq3
  have cq4 := wd_keep ew_25 n_q4_q6 cq4
  have cq5 := wd_keep ew_25 n_q5_q6 cq5
  have cq6 : w_25 q6 = some (.inl (G.2.1 0, 32, .inl (fun _ => 0))) := wd_here ew_25
  refine wd_putF S i_HR t_HR t_HR_ok n_HR hK hW hr0 rfl 9 (by decide) k_HR_42 rfl rfl hname rfl rfl rfl (Nat.le_of_ble_eq_true rfl) d_HR_init_81 (fun H locs w_26 ew_26 hW => ?_)
  have cq0 := wd_keep ew_26 (Ne.symm n_r_q0) cq0
  have cq1 := wd_keep ew_26 (Ne.symm n_r_q1) cq1
  have cq2 := wd_keep ew_26 (Ne.symm n_r_q2) cq2
  have cq3 := wd_keep ew_26 (Ne.symm n_r_q3) cq3
  have cq4 := wd_keep ew_26 (Ne.symm n_r_q4) cq4
  have cq5 := wd_keep ew_26 (Ne.symm n_r_q5) cq5
  have cq6 := wd_keep ew_26 (Ne.symm n_r_q6) cq6
  have hr0 : w_26 r = some (.inr (0, [.ref q0, .ref q1, .ref q2, .int 0, .ref q3, .ref q4, .int 0, .ref q5, .int 0, .ref q6, .null, .null, .int 0])) := wd_here ew_26
  refine lv_aload_n hx hb d_HR_init_84 rfl (lv_at hl 0 rfl) ?_
  refine lv_bipush (v := 33) hx hb d_HR_init_85 (by decide) ?_
  refine wd_newa S (atype := .int) ka_int rfl hK hW 0 rfl (n := 33) (N' := 33) (a0 := (33, .inl (fun _ => 0))) (fun _ => rfl) (by decide) (by decide) (by decide) (Nat.le_of_ble_eq_true rfl) (Nat.le_of_ble_eq_true rfl) d_HR_init_87 (fun q7 H hq7 w_27 ew_27 hW => ?_)
  have n_q0_q7 : q0 ≠ q7 := wd_neN cq0 hq7
  have n_q1_q7 : q1 ≠ q7 := wd_neN cq1 hq7
  have n_q2_q7 : q2 ≠ q7 := wd_neN cq2 hq7
  have n_q3_q7 : q3 ≠ q7 := wd_neN cq3 hq7
  have n_q4_q7 : q4 ≠ q7 := wd_neN cq4 hq7
  have n_q5_q7 : q5 ≠ q7 := wd_neN cq5 hq7
  have n_q6_q7 : q6 ≠ q7 := wd_neN cq6 hq7
  have n_r_q7 : r ≠ q7 := wd_neN hr0 hq7
  have zq7 : w q7 = none := by have h9 := hq7; rw [ew_26, va_up_ne _ _ n_r_q7.symm, ew_25, va_up_ne _ _ n_q6_q7.symm, ew_24, va_up_ne _ _ n_r_q7.symm, ew_23, va_up_ne _ _ n_r_q7.symm, ew_22, va_up_ne _ _ n_q5_q7.symm, ew_21, va_up_ne _ _ n_r_q7.symm, ew_20, va_up_ne _ _ n_r_q7.symm, ew_19, va_up_ne _ _ n_q4_q7.symm, ew_18, va_up_ne _ _ n_r_q7.symm, ew_17, va_up_ne _ _ n_q3_q7.symm, ew_16, va_up_ne _ _ n_r_q7.symm, ew_15, va_up_ne _ _ n_r_q7.symm, eu_12, va_up_ne _ _ n_q2_q7.symm, ew_11, va_up_ne _ _ n_q2_q7.symm, ew_10, va_up_ne _ _ n_r_q7.symm, eu_7, va_up_ne _ _ n_q1_q7.symm, ew_6, va_up_ne _ _ n_q1_q7.symm, ew_5, va_up_ne _ _ n_r_q7.symm, eu_2, va_up_ne _ _ n_q0_q7.symm, ew_1, va_up_ne _ _ n_q0_q7.symm] at h9; exact h9
  have hr0 := wd_keep ew_27 n_r_q7 hr0
  have cq0 := wd_keep ew_27 n_q0_q7 cq0
  have cq1 := wd_keep ew_27 n_q1_q7 cq1
  have cq2 := wd_keep ew_27 n_q2_q7 cq2
  have cq3 := wd_keep ew_27 n_q3_q7 cq3
  have cq4 := wd_keep ew_27 n_q4_q7 cq4
  have cq5 := wd_keep ew_27 n_q5_q7 cq5
  have cq6 := wd_keep ew_27 n_q6_q7 cq6
  have cq7 : w_27 q7 = some (.inl (G.2.1 0, 33, .inl (fun _ => 0))) := wd_here ew_27
  refine wd_putF S i_HR t_HR t_HR_ok n_HR hK hW hr0 rfl 10 (by decide) k_HR_45 rfl rfl hname rfl rfl rfl (Nat.le_of_ble_eq_true rfl) d_HR_init_89 (fun H locs w_28 ew_28 hW => ?_)
  have cq0 := wd_keep ew_28 (Ne.symm n_r_q0) cq0
  have cq1 := wd_keep ew_28 (Ne.symm n_r_q1) cq1
  have cq2 := wd_keep ew_28 (Ne.symm n_r_q2) cq2
  have cq3 := wd_keep ew_28 (Ne.symm n_r_q3) cq3
  have cq4 := wd_keep ew_28 (Ne.symm n_r_q4) cq4
  have cq5 := wd_keep ew_28 (Ne.symm n_r_q5) cq5
  have cq6 := wd_keep ew_28 (Ne.symm n_r_q6) cq6
  have cq7 := wd_keep ew_28 (Ne.symm n_r_q7) cq7
  have hr0 : w_28 r = some (.inr (0, [.ref q0, .ref q1, .ref q2, .int 0, .ref q3, .ref q4, .int 0, .ref q5, .int 0, .ref q6, .ref q7, .null, .int 0])) := wd_here ew_28
  refine lv_aload_n hx hb d_HR_init_92 rfl (lv_at hl 0 rfl) ?_
  refine lv_bipush (v := 30) hx hb d_HR_init_93 (by decide) ?_
  refine wd_newa S (atype := .int) ka_int rfl hK hW 0 rfl (n := 30) (N' := 30) (a0 := (30, .inl (fun _ => 0))) (fun _ => rfl) (by decide) (by decide) (by decide) (Nat.le_of_ble_eq_true rfl) (Nat.le_of_ble_eq_true rfl) d_HR_init_95 (fun q8 H hq8 w_29 ew_29 hW => ?_)
  have n_q0_q8 : q0 ≠ q8 := wd_neN cq0 hq8
  have n_q1_q8 : q1 ≠ q8 := wd_neN cq1 hq8
  have n_q2_q8 : q2 ≠ q8 := wd_neN cq2 hq8
  have n_q3_q8 : q3 ≠ q8 := wd_neN cq3 hq8
  have n_q4_q8 : q4 ≠ q8 := wd_neN cq4 hq8
  have n_q5_q8 : q5 ≠ q8 := wd_neN cq5 hq8
  have n_q6_q8 : q6 ≠ q8 := wd_neN cq6 hq8
  have n_q7_q8 : q7 ≠ q8 := wd_neN cq7 hq8
  have n_r_q8 : r ≠ q8 := wd_neN hr0 hq8
  have zq8 : w q8 = none := by have h9 := hq8; rw [ew_28, va_up_ne _ _ n_r_q8.symm, ew_27, va_up_ne _ _ n_q7_q8.symm, ew_26, va_up_ne _ _ n_r_q8.symm, ew_25, va_up_ne _ _ n_q6_q8.symm, ew_24, va_up_ne _ _ n_r_q8.symm, ew_23, va_up_ne _ _ n_r_q8.symm, ew_22, va_up_ne _ _ n_q5_q8.symm, ew_21, va_up_ne _ _ n_r_q8.symm, ew_20, va_up_ne _ _ n_r_q8.symm, ew_19, va_up_ne _ _ n_q4_q8.symm, ew_18, va_up_ne _ _ n_r_q8.symm, ew_17, va_up_ne _ _ n_q3_q8.symm, ew_16, va_up_ne _ _ n_r_q8.symm, ew_15, va_up_ne _ _ n_r_q8.symm, eu_12, va_up_ne _ _ n_q2_q8.symm, ew_11, va_up_ne _ _ n_q2_q8.symm, ew_10, va_up_ne _ _ n_r_q8.symm, eu_7, va_up_ne _ _ n_q1_q8.symm, ew_6, va_up_ne _ _ n_q1_q8.symm, ew_5, va_up_ne _ _ n_r_q8.symm, eu_2, va_up_ne _ _ n_q0_q8.symm, ew_1, va_up_ne _ _ n_q0_q8.symm] at h9; exact h9
  have hr0 := wd_keep ew_29 n_r_q8 hr0
  have cq0 := wd_keep ew_29 n_q0_q8 cq0
  have cq1 := wd_keep ew_29 n_q1_q8 cq1
  have cq2 := wd_keep ew_29 n_q2_q8 cq2
  have cq3 := wd_keep ew_29 n_q3_q8 cq3
  have cq4 := wd_keep ew_29 n_q4_q8 cq4
  have cq5 := wd_keep ew_29 n_q5_q8 cq5
  have cq6 := wd_keep ew_29 n_q6_q8 cq6
  have cq7 := wd_keep ew_29 n_q7_q8 cq7
  have cq8 : w_29 q8 = some (.inl (G.2.1 0, 30, .inl (fun _ => 0))) := wd_here ew_29
  refine wd_putF S i_HR t_HR t_HR_ok n_HR hK hW hr0 rfl 11 (by decide) k_HR_48 rfl rfl hname rfl rfl rfl (Nat.le_of_ble_eq_true rfl) d_HR_init_97 (fun H locs w_30 ew_30 hW => ?_)
  have cq0 := wd_keep ew_30 (Ne.symm n_r_q0) cq0
  have cq1 := wd_keep ew_30 (Ne.symm n_r_q1) cq1
  have cq2 := wd_keep ew_30 (Ne.symm n_r_q2) cq2
  have cq3 := wd_keep ew_30 (Ne.symm n_r_q3) cq3
  have cq4 := wd_keep ew_30 (Ne.symm n_r_q4) cq4
  have cq5 := wd_keep ew_30 (Ne.symm n_r_q5) cq5
  have cq6 := wd_keep ew_30 (Ne.symm n_r_q6) cq6
  have cq7 := wd_keep ew_30 (Ne.symm n_r_q7) cq7
  have cq8 := wd_keep ew_30 (Ne.symm n_r_q8) cq8
  have hr0 : w_30 r = some (.inr (0, [.ref q0, .ref q1, .ref q2, .int 0, .ref q3, .ref q4, .int 0, .ref q5, .int 0, .ref q6, .ref q7, .ref q8, .int 0])) := wd_here ew_30
  refine lv_aload_n hx hb d_HR_init_100 rfl (lv_at hl 0 rfl) ?_
  refine lv_iconst (v := 0) hx hb d_HR_init_101 (by decide) ?_
  refine wd_put S i_HR t_HR t_HR_ok n_HR hK hW hr0 rfl 12 (by decide) k_HR_51 rfl rfl rfl rfl (Nat.le_of_ble_eq_true rfl) d_HR_init_102 (fun H locs w_31 ew_31 hW => ?_)
  have cq0 := wd_keep ew_31 (Ne.symm n_r_q0) cq0
  have cq1 := wd_keep ew_31 (Ne.symm n_r_q1) cq1
  have cq2 := wd_keep ew_31 (Ne.symm n_r_q2) cq2
  have cq3 := wd_keep ew_31 (Ne.symm n_r_q3) cq3
  have cq4 := wd_keep ew_31 (Ne.symm n_r_q4) cq4
  have cq5 := wd_keep ew_31 (Ne.symm n_r_q5) cq5
  have cq6 := wd_keep ew_31 (Ne.symm n_r_q6) cq6
  have cq7 := wd_keep ew_31 (Ne.symm n_r_q7) cq7
  have cq8 := wd_keep ew_31 (Ne.symm n_r_q8) cq8
  have hr0 : w_31 r = some (.inr (0, [.ref q0, .ref q1, .ref q2, .int 0, .ref q3, .ref q4, .int 0, .ref q5, .int 0, .ref q6, .ref q7, .ref q8, .int 0])) := wd_here ew_31
  have hk : ∀ x, w x ≠ none → x ≠ r → w_31 x = w x := fun x hx hxr => by rw [ew_31, va_up_ne _ _ hxr, ew_30, va_up_ne _ _ hxr, ew_29, va_up_ne _ _ (fun h => hx (by rw [h]; exact zq8)), ew_28, va_up_ne _ _ hxr, ew_27, va_up_ne _ _ (fun h => hx (by rw [h]; exact zq7)), ew_26, va_up_ne _ _ hxr, ew_25, va_up_ne _ _ (fun h => hx (by rw [h]; exact zq6)), ew_24, va_up_ne _ _ hxr, ew_23, va_up_ne _ _ hxr, ew_22, va_up_ne _ _ (fun h => hx (by rw [h]; exact zq5)), ew_21, va_up_ne _ _ hxr, ew_20, va_up_ne _ _ hxr, ew_19, va_up_ne _ _ (fun h => hx (by rw [h]; exact zq4)), ew_18, va_up_ne _ _ hxr, ew_17, va_up_ne _ _ (fun h => hx (by rw [h]; exact zq3)), ew_16, va_up_ne _ _ hxr, ew_15, va_up_ne _ _ hxr, eu_12, va_up_ne _ _ (fun h => hx (by rw [h]; exact zq2)), ew_11, va_up_ne _ _ (fun h => hx (by rw [h]; exact zq2)), ew_10, va_up_ne _ _ hxr, eu_7, va_up_ne _ _ (fun h => hx (by rw [h]; exact zq1)), ew_6, va_up_ne _ _ (fun h => hx (by rw [h]; exact zq1)), ew_5, va_up_ne _ _ hxr, eu_2, va_up_ne _ _ (fun h => hx (by rw [h]; exact zq0)), ew_1, va_up_ne _ _ (fun h => hx (by rw [h]; exact zq0))]
  have hz9 := wd_z0 hE hW
  obtain ⟨tg2, htg⟩ : ∃ f : Nat → Nat, f = va_up (va_up (va_up (va_up (va_up (va_up (va_up (va_up (va_up (va_up tg r 1) q0 2) q1 3) q2 4) q3 5) q4 6) q5 7) q6 8) q7 9) q8 10 := ⟨_, rfl⟩
  have tr : tg2 r = 1 := by rw [htg, va_up_ne _ _ n_r_q8, va_up_ne _ _ n_r_q7, va_up_ne _ _ n_r_q6, va_up_ne _ _ n_r_q5, va_up_ne _ _ n_r_q4, va_up_ne _ _ n_r_q3, va_up_ne _ _ n_r_q2, va_up_ne _ _ n_r_q1, va_up_ne _ _ n_r_q0, va_up_self]
  have tq0 : tg2 q0 = 2 := by rw [htg, va_up_ne _ _ n_q0_q8, va_up_ne _ _ n_q0_q7, va_up_ne _ _ n_q0_q6, va_up_ne _ _ n_q0_q5, va_up_ne _ _ n_q0_q4, va_up_ne _ _ n_q0_q3, va_up_ne _ _ n_q0_q2, va_up_ne _ _ n_q0_q1, va_up_self]
  have tq1 : tg2 q1 = 3 := by rw [htg, va_up_ne _ _ n_q1_q8, va_up_ne _ _ n_q1_q7, va_up_ne _ _ n_q1_q6, va_up_ne _ _ n_q1_q5, va_up_ne _ _ n_q1_q4, va_up_ne _ _ n_q1_q3, va_up_ne _ _ n_q1_q2, va_up_self]
  have tq2 : tg2 q2 = 4 := by rw [htg, va_up_ne _ _ n_q2_q8, va_up_ne _ _ n_q2_q7, va_up_ne _ _ n_q2_q6, va_up_ne _ _ n_q2_q5, va_up_ne _ _ n_q2_q4, va_up_ne _ _ n_q2_q3, va_up_self]
  have tq3 : tg2 q3 = 5 := by rw [htg, va_up_ne _ _ n_q3_q8, va_up_ne _ _ n_q3_q7, va_up_ne _ _ n_q3_q6, va_up_ne _ _ n_q3_q5, va_up_ne _ _ n_q3_q4, va_up_self]
  have tq4 : tg2 q4 = 6 := by rw [htg, va_up_ne _ _ n_q4_q8, va_up_ne _ _ n_q4_q7, va_up_ne _ _ n_q4_q6, va_up_ne _ _ n_q4_q5, va_up_self]
  have tq5 : tg2 q5 = 7 := by rw [htg, va_up_ne _ _ n_q5_q8, va_up_ne _ _ n_q5_q7, va_up_ne _ _ n_q5_q6, va_up_self]
  have tq6 : tg2 q6 = 8 := by rw [htg, va_up_ne _ _ n_q6_q8, va_up_ne _ _ n_q6_q7, va_up_self]
  have tq7 : tg2 q7 = 9 := by rw [htg, va_up_ne _ _ n_q7_q8, va_up_self]
  have tq8 : tg2 q8 = 10 := by rw [htg, va_up_self]
  have hx2 : ∀ x, w x ≠ none → x ≠ r → tg2 x = tg x := fun x hx hxr => by rw [htg, va_up_ne _ _ (fun h => hx (by rw [h]; exact zq8)), va_up_ne _ _ (fun h => hx (by rw [h]; exact zq7)), va_up_ne _ _ (fun h => hx (by rw [h]; exact zq6)), va_up_ne _ _ (fun h => hx (by rw [h]; exact zq5)), va_up_ne _ _ (fun h => hx (by rw [h]; exact zq4)), va_up_ne _ _ (fun h => hx (by rw [h]; exact zq3)), va_up_ne _ _ (fun h => hx (by rw [h]; exact zq2)), va_up_ne _ _ (fun h => hx (by rw [h]; exact zq1)), va_up_ne _ _ (fun h => hx (by rw [h]; exact zq0)), va_up_ne _ _ hxr]
  have hgF : hr_g tg2 r (fun i => [q0, q1, q2, q3, q4, q5, q6, q7, q8].getD i 0) := ⟨tr, fun i hi => by match i, hi with
    | 0, _ => exact tq0
    | 1, _ => exact tq1
    | 2, _ => exact tq2
    | 3, _ => exact tq3
    | 4, _ => exact tq4
    | 5, _ => exact tq5
    | 6, _ => exact tq6
    | 7, _ => exact tq7
    | 8, _ => exact tq8
    | i + 9, h => exact absurd h (by omega)⟩
  have hcF : hr_c G w_31 r (fun i => [q0, q1, q2, q3, q4, q5, q6, q7, q8].getD i 0) (fun _ _ => 0) 0 0 0 0 := ⟨hr0, cq3, cq4, cq5, cq6, cq7, cq8⟩
  exact ct_vret S hr hlocks hW (⟨tg2, ⟨(fun i => [q0, q1, q2, q3, q4, q5, q6, q7, q8].getD i 0), fun _ => G.2.2 0, fun _ _ => 0, [], [], [], hcF, hgF, ⟨⟨0, cq0, Or.inl ⟨rfl, rfl⟩⟩, ⟨0, cq1, Or.inl ⟨rfl, rfl⟩⟩, ⟨0, cq2, Or.inl ⟨rfl, rfl⟩⟩, fun i hi hn => absurd hz9 hn⟩, ⟨rfl, fun i lg h => by simp at h⟩, ⟨rfl, fun i p h => by simp at h⟩, ⟨rfl, fun i j a h => by simp at h, fun i t h => by simp at h⟩, li_nil, li_nil, li_nil, li_nil⟩, hx2, hk⟩) (Nat.le_of_ble_eq_true rfl) (Nat.le_of_ble_eq_true rfl) d_HR_init_105
end
section
/-! THE REFERENCE: how it holds its state; its small calls. -/

def mo_c (G : ev_G) (w : wd_M) (t : Nat) (C : Nat → Nat) (M : Nat → Nat → Int32) (ln mk pn tn en sn qn : Int32) : Prop :=
  w t = some (.inr (5, [.int ln, .ref (C 0), .ref (C 1), .ref (C 2), .ref (C 3), .ref (C 4), .int mk, .ref (C 5), .ref (C 6), .int pn, .int tn, .ref (C 7), .ref (C 8), .ref (C 9), .ref (C 10), .int en, .ref (C 11), .ref (C 12), .ref (C 13), .ref (C 14), .int sn, .ref (C 15), .ref (C 16), .int qn, .ref (C 17)])) ∧ w (C 0) = some (.inl (G.2.1 0, 1024, .inl (M 0))) ∧ w (C 1) = some (.inl (G.2.1 1, 1024, .inl (M 1))) ∧ w (C 2) = some (.inl (G.2.1 0, 4, .inl (M 2))) ∧ w (C 3) = some (.inl (G.2.1 0, 4, .inl (M 3))) ∧ w (C 4) = some (.inl (G.2.1 1, 4, .inl (M 4))) ∧ w (C 5) = some (.inl (G.2.1 0, 12, .inl (M 5))) ∧ w (C 6) = some (.inl (G.2.1 0, 13, .inl (M 6))) ∧ w (C 7) = some (.inl (G.2.1 0, 150, .inl (M 7))) ∧ w (C 8) = some (.inl (G.2.1 0, 150, .inl (M 8))) ∧ w (C 9) = some (.inl (G.2.1 0, 1800, .inl (M 9))) ∧ w (C 10) = some (.inl (G.2.1 0, 1950, .inl (M 10))) ∧ w (C 11) = some (.inl (G.2.1 0, 40, .inl (M 11))) ∧ w (C 12) = some (.inl (G.2.1 0, 40, .inl (M 12))) ∧ w (C 13) = some (.inl (G.2.1 0, 1200, .inl (M 13))) ∧ w (C 14) = some (.inl (G.2.1 0, 40, .inl (M 14))) ∧ w (C 15) = some (.inl (G.2.1 0, 30, .inl (M 15))) ∧ w (C 16) = some (.inl (G.2.1 0, 32, .inl (M 16))) ∧ w (C 17) = some (.inl (G.2.1 0, 32, .inl (M 17)))
def mo_g (tg : Nat → Nat) (t : Nat) (C : Nat → Nat) : Prop := tg t = 500 ∧ ∀ i, i < 18 → tg (C i) = 501 + i
/-- the languages, in the reference's arrays -/
def mo_l (Ls : List hy_L) (M : Nat → Nat → Int32) : Prop := (∀ (i : Nat) (lg : hy_L), Ls[i]? = some lg → (∀ s, s < 256 → M 0 (256 * i + s) = lg.1 s ∧ M 1 (256 * i + s) = lg.2.1 s) ∧ M 2 i = nI lg.2.2.1 ∧ M 3 i = nI lg.2.2.2.1 ∧ M 4 i = lg.2.2.2.2) ∧ ∀ i, Ls.length ≤ i → i < 4 → (∀ s, s < 256 → M 0 (256 * i + s) = 0 ∧ M 1 (256 * i + s) = 0) ∧ M 4 i = 0
def mo_p (Ps : List hy_P) (M : Nat → Nat → Int32) : Prop := ∀ (k : Nat) (p : hy_P), Ps[k]? = some p → M 7 k = nI p.1 ∧ M 8 k = nI p.2.1.length ∧ (∀ (i : Nat) (x : Int32), p.2.1[i]? = some x → M 9 (12 * k + i) = x) ∧ ∀ (i : Nat) (x : Int32), p.2.2[i]? = some x → M 10 (13 * k + i) = x
def mo_t (Ts : List hy_T) (M : Nat → Nat → Int32) : Prop := ∀ (k : Nat) (q : hy_T), Ts[k]? = some q → M 11 k = nI q.1 ∧ M 12 k = nI q.2.1.length ∧ (∀ (i : Nat) (x : Int32), q.2.1[i]? = some x → M 13 (30 * k + i) = x) ∧ M 14 k = q.2.2
/-- THE REFERENCE HOLDS THE STATE -/
def mo_ (G : ev_G) (w : wd_M) (tg : Nat → Nat) (t : Nat) (Ls : List hy_L) (Ps : List hy_P) (Ts : List hy_T) (ml md wd : List Int32) (pl : List Nat) : Prop :=
  ∃ (C : Nat → Nat) (M : Nat → Nat → Int32), mo_c G w t C M (nI Ls.length) (nI ml.length) (nI Ps.length) (nI (hy_tot Ps)) (nI Ts.length) (nI wd.length) (nI pl.length) ∧ mo_g tg t C ∧ mo_l Ls M ∧ mo_p Ps M ∧ mo_t Ts M ∧ li_ ml (M 5) ∧ li_ md (M 6) ∧ li_ wd (M 15) ∧ li_ (pl.map nI) (M 17)
def mo_S (G : ev_G) (w : wd_M) (tg : Nat → Nat) (t : Nat) (x : hy_S) : Prop := mo_ G w tg t x.1 x.2.1 x.2.2.1 x.2.2.2.1 x.2.2.2.2.1 x.2.2.2.2.2.1 x.2.2.2.2.2.2
def mk_ (w u : wd_M) (tg : Nat → Nat) : Prop := (∀ q, ¬ (500 ≤ tg q ∧ tg q < 600) → u q = w q) ∧ ∀ q, u q = none ↔ w q = none
def mq_ (G : ev_G) (w : wd_M) (tg : Nat → Nat) (t : Nat) (sp : Int32 → hy_S → Prop) (v : Int32) (u : wd_M) : Prop := ∃ x : hy_S, sp v x ∧ mo_S G u tg t x ∧ mk_ w u tg
theorem mk_rf {w : wd_M} {tg : Nat → Nat} : mk_ w w tg := ⟨fun _ _ => rfl, fun _ => Iff.rfl⟩
theorem mk_up {w w1 w2 : wd_M} {tg : Nat → Nat} {a : Nat} {x y : va_E} (h : mk_ w w1 tg) (ha : w1 a = some y) (e1 : w2 = va_up w1 a (some x)) (ht : 500 ≤ tg a ∧ tg a < 600) : mk_ w w2 tg := ⟨fun q hq => by rw [e1, va_up_ne _ _ (fun z => hq (by rw [z]; exact ht))]; exact h.1 q hq, fun q => by rw [e1]; exact (up_dom ha).trans (h.2 q)⟩
theorem mo_lc {Ls : List hy_L} {M M2 : Nat → Nat → Int32} (h : mo_l Ls M) (e : ∀ k, k < 5 → M2 k = M k) : mo_l Ls M2 := by
  unfold mo_l at h ⊢
  rw [e 0 (by omega), e 1 (by omega), e 2 (by omega), e 3 (by omega), e 4 (by omega)]
  exact h
theorem mo_pc {Ps : List hy_P} {M M2 : Nat → Nat → Int32} (h : mo_p Ps M) (e : ∀ k, 7 ≤ k → k < 11 → M2 k = M k) : mo_p Ps M2 := by
  unfold mo_p at h ⊢
  rw [e 7 (by omega) (by omega), e 8 (by omega) (by omega), e 9 (by omega) (by omega), e 10 (by omega) (by omega)]
  exact h
theorem mo_tc {Ts : List hy_T} {M M2 : Nat → Nat → Int32} (h : mo_t Ts M) (e : ∀ k, 11 ≤ k → k < 15 → M2 k = M k) : mo_t Ts M2 := by
  unfold mo_t at h ⊢
  rw [e 11 (by omega) (by omega), e 12 (by omega) (by omega), e 13 (by omega) (by omega), e 14 (by omega) (by omega)]
  exact h

set_option maxHeartbeats 4000000 in
set_option maxRecDepth 100000 in
/-- isLanguage(x) -/
theorem c_Mo_isLanguage (l : Launch) (G : ev_G) (w : wd_M) (sz : Nat) (t : Nat) (C : Nat → Nat) (M : Nat → Nat → Int32) (mk pn tn en sn qn : Int32) (n : Nat) (x : Int32) (hc : mo_c G w t C M (nI n) mk pn tn en sn qn) : ct_i l y_Mo_isLanguage b_Mo_isLanguage 2 (some FieldType.boolean) (rm_ 0 0 0) G w sz [.ref t, .int x] (fun v u => bl_ v (nm_ x n) ∧ u = w) := by
  refine ct_enter (by decide +kernel) (Nat.le_of_ble_eq_true rfl) ?_
  intro p_ e_ s m below meth c_ hsz S hr hlocks hname hE hW ls hl
  have S : CallFix p_ m c_ b_Mo_isLanguage 2 s _ lw_good "HyphenRowsModel" := S
  have hx := S.1
  have hb := S.2.1
  have hK := hE.1
  have hl : lv_has ls 2 [(0, .ref t), (1, .int x)] := hl
  obtain ⟨ht0, -⟩ := id hc
  refine lv_iload_n hx hb d_Mo_isLanguage_0 rfl (lv_at hl 1 rfl) ?_
  refine lv_if_lt (tgt := 16) hx hb d_Mo_isLanguage_1 (by decide) (fun h1 => ?_) (fun h1 => ?_)
  · refine lv_iconst (v := 0) hx hb d_Mo_isLanguage_16 (by decide) ?_
    exact ct_iret S hr rfl hlocks hW (⟨Or.inr ⟨rfl, fun q => q.1 h1⟩, rfl⟩) (Nat.le_refl _) (Nat.le_refl _) d_Mo_isLanguage_17
  · refine lv_iload_n hx hb d_Mo_isLanguage_4 rfl (lv_at hl 1 rfl) ?_
    refine lv_aload_n hx hb d_Mo_isLanguage_5 rfl (lv_at hl 0 rfl) ?_
    refine wd_get S i_Mo hK hW ht0 rfl 0 (by decide) k_Mo_65 rfl rfl d_Mo_isLanguage_6 ?_
    refine lv_icmp_ge (tgt := 16) hx hb d_Mo_isLanguage_9 (by decide) (fun hq => ?_) (fun hq => ?_)
    · refine lv_iconst (v := 0) hx hb d_Mo_isLanguage_16 (by decide) ?_
      exact ct_iret S hr rfl hlocks hW (⟨Or.inr ⟨rfl, fun q => q.2 hq⟩, rfl⟩) (Nat.le_refl _) (Nat.le_refl _) d_Mo_isLanguage_17
    · refine lv_iconst (v := 1) hx hb d_Mo_isLanguage_12 (by decide) ?_
      refine lv_goto (tgt := 17) hx hb d_Mo_isLanguage_13 (by decide) ?_
      exact ct_iret S hr rfl hlocks hW (⟨Or.inl ⟨rfl, h1, hq⟩, rfl⟩) (Nat.le_refl _) (Nat.le_refl _) d_Mo_isLanguage_17

set_option maxHeartbeats 4000000 in
set_option maxRecDepth 100000 in
/-- the reference: patterns -/
theorem c_Mo_patterns (l : Launch) (G : ev_G) (w : wd_M) (sz : Nat) (tg : Nat → Nat) (t : Nat) (Ls : List hy_L) (Ps : List hy_P) (Ts : List hy_T) (ml md wd : List Int32) (pl : List Nat) (h : mo_ G w tg t Ls Ps Ts ml md wd pl) (hwf : hy_wf Ls Ps Ts ml md wd pl) : ct_i l y_Mo_patterns b_Mo_patterns 1 (some FieldType.int) (rm_ 1 0 0) G w sz [.ref t] (mq_ G w tg t (sp_patterns (Ls, Ps, Ts, ml, md, wd, pl))) := by
  refine ct_enter (by decide +kernel) (Nat.le_of_ble_eq_true rfl) ?_
  intro p_ e_ s m below meth c_ hsz S hr hlocks hname hE hW ls hl
  have S : CallFix p_ m c_ b_Mo_patterns 1 s _ lw_good "HyphenRowsModel" := S
  have hx := S.1
  have hb := S.2.1
  have hK := hE.1
  have hl : lv_has ls 1 [(0, .ref t)] := hl
  obtain ⟨C, M, hc, hT, hl0, hp0, hq0, hml, hmd, hwd, hpl⟩ := id h
  obtain ⟨ht0, c0, c1, c2, c3, c4, c5, c6, c7, c8, c9, c10, c11, c12, c13, c14, c15, c16, c17⟩ := id hc
  obtain ⟨wL, wP, wT, wm, wml, wwd, wpl, wtot, wmx, wdx, wws, wplx, wlg, wps, wts⟩ := id hwf
  have hmk : mk_ w w tg := mk_rf
  refine lv_aload_n hx hb d_Mo_patterns_0 rfl (lv_at hl 0 rfl) ?_
  refine wd_get S i_Mo hK hW ht0 rfl 9 (by decide) k_Mo_80 rfl rfl d_Mo_patterns_1 ?_
  exact ct_iret S hr rfl hlocks hW (⟨_, ⟨rfl, rfl⟩, h, mk_rf⟩) (Nat.le_of_ble_eq_true rfl) (Nat.le_of_ble_eq_true rfl) d_Mo_patterns_4

set_option maxHeartbeats 4000000 in
set_option maxRecDepth 100000 in
/-- the reference: exceptions -/
theorem c_Mo_exceptions (l : Launch) (G : ev_G) (w : wd_M) (sz : Nat) (tg : Nat → Nat) (t : Nat) (Ls : List hy_L) (Ps : List hy_P) (Ts : List hy_T) (ml md wd : List Int32) (pl : List Nat) (h : mo_ G w tg t Ls Ps Ts ml md wd pl) (hwf : hy_wf Ls Ps Ts ml md wd pl) : ct_i l y_Mo_exceptions b_Mo_exceptions 1 (some FieldType.int) (rm_ 1 0 0) G w sz [.ref t] (mq_ G w tg t (sp_exceptions (Ls, Ps, Ts, ml, md, wd, pl))) := by
  refine ct_enter (by decide +kernel) (Nat.le_of_ble_eq_true rfl) ?_
  intro p_ e_ s m below meth c_ hsz S hr hlocks hname hE hW ls hl
  have S : CallFix p_ m c_ b_Mo_exceptions 1 s _ lw_good "HyphenRowsModel" := S
  have hx := S.1
  have hb := S.2.1
  have hK := hE.1
  have hl : lv_has ls 1 [(0, .ref t)] := hl
  obtain ⟨C, M, hc, hT, hl0, hp0, hq0, hml, hmd, hwd, hpl⟩ := id h
  obtain ⟨ht0, c0, c1, c2, c3, c4, c5, c6, c7, c8, c9, c10, c11, c12, c13, c14, c15, c16, c17⟩ := id hc
  obtain ⟨wL, wP, wT, wm, wml, wwd, wpl, wtot, wmx, wdx, wws, wplx, wlg, wps, wts⟩ := id hwf
  have hmk : mk_ w w tg := mk_rf
  refine lv_aload_n hx hb d_Mo_exceptions_0 rfl (lv_at hl 0 rfl) ?_
  refine wd_get S i_Mo hK hW ht0 rfl 15 (by decide) k_Mo_97 rfl rfl d_Mo_exceptions_1 ?_
  exact ct_iret S hr rfl hlocks hW (⟨_, ⟨rfl, rfl⟩, h, mk_rf⟩) (Nat.le_of_ble_eq_true rfl) (Nat.le_of_ble_eq_true rfl) d_Mo_exceptions_4

set_option maxHeartbeats 4000000 in
set_option maxRecDepth 100000 in
/-- the reference: clear -/
theorem c_Mo_clear (l : Launch) (G : ev_G) (w : wd_M) (sz : Nat) (tg : Nat → Nat) (t : Nat) (Ls : List hy_L) (Ps : List hy_P) (Ts : List hy_T) (ml md wd : List Int32) (pl : List Nat) (h : mo_ G w tg t Ls Ps Ts ml md wd pl) (hwf : hy_wf Ls Ps Ts ml md wd pl) : ct_i l y_Mo_clear b_Mo_clear 2 (some FieldType.int) (rm_ 1 0 0) G w sz [.ref t] (mq_ G w tg t (sp_clear (Ls, Ps, Ts, ml, md, wd, pl))) := by
  refine ct_enter (by decide +kernel) (Nat.le_of_ble_eq_true rfl) ?_
  intro p_ e_ s m below meth c_ hsz S hr hlocks hname hE hW ls hl
  have S : CallFix p_ m c_ b_Mo_clear 2 s _ lw_good "HyphenRowsModel" := S
  have hx := S.1
  have hb := S.2.1
  have hK := hE.1
  have hl : lv_has ls 2 [(0, .ref t)] := hl
  obtain ⟨C, M, hc, hT, hl0, hp0, hq0, hml, hmd, hwd, hpl⟩ := id h
  obtain ⟨ht0, c0, c1, c2, c3, c4, c5, c6, c7, c8, c9, c10, c11, c12, c13, c14, c15, c16, c17⟩ := id hc
  obtain ⟨wL, wP, wT, wm, wml, wwd, wpl, wtot, wmx, wdx, wws, wplx, wlg, wps, wts⟩ := id hwf
  have hmk : mk_ w w tg := mk_rf
  refine lv_aload_n hx hb d_Mo_clear_0 rfl (lv_at hl 0 rfl) ?_
  refine wd_get S i_Mo hK hW ht0 rfl 20 (by decide) k_Mo_94 rfl rfl d_Mo_clear_1 ?_
  refine lv_topi (fun x_1 ex_1 => ?_)
  refine lv_istore_n (lv' := [(1, .int x_1), (0, .ref t)]) hx hb d_Mo_clear_4 rfl hl (by decide) rfl (fun ls hl => ?_)
  refine lv_aload_n hx hb d_Mo_clear_5 rfl (lv_at hl 1 rfl) ?_
  refine lv_iconst (v := 0) hx hb d_Mo_clear_6 (by decide) ?_
  refine wd_put S i_Mo t_Mo t_Mo_ok n_Mo hK hW ht0 rfl 20 (by decide) k_Mo_94 rfl rfl rfl rfl (Nat.le_of_ble_eq_true rfl) d_Mo_clear_7 (fun H locs w_2 ew_2 hW => ?_)
  have hmk := mk_up hmk ht0 ew_2 (by rw [hT.1]; omega)
  have c0 := wd_keep ew_2 (wd_ne c0 ht0 (by simp)) c0
  have c1 := wd_keep ew_2 (wd_ne c1 ht0 (by simp)) c1
  have c2 := wd_keep ew_2 (wd_ne c2 ht0 (by simp)) c2
  have c3 := wd_keep ew_2 (wd_ne c3 ht0 (by simp)) c3
  have c4 := wd_keep ew_2 (wd_ne c4 ht0 (by simp)) c4
  have c5 := wd_keep ew_2 (wd_ne c5 ht0 (by simp)) c5
  have c6 := wd_keep ew_2 (wd_ne c6 ht0 (by simp)) c6
  have c7 := wd_keep ew_2 (wd_ne c7 ht0 (by simp)) c7
  have c8 := wd_keep ew_2 (wd_ne c8 ht0 (by simp)) c8
  have c9 := wd_keep ew_2 (wd_ne c9 ht0 (by simp)) c9
  have c10 := wd_keep ew_2 (wd_ne c10 ht0 (by simp)) c10
  have c11 := wd_keep ew_2 (wd_ne c11 ht0 (by simp)) c11
  have c12 := wd_keep ew_2 (wd_ne c12 ht0 (by simp)) c12
  have c13 := wd_keep ew_2 (wd_ne c13 ht0 (by simp)) c13
  have c14 := wd_keep ew_2 (wd_ne c14 ht0 (by simp)) c14
  have c15 := wd_keep ew_2 (wd_ne c15 ht0 (by simp)) c15
  have c16 := wd_keep ew_2 (wd_ne c16 ht0 (by simp)) c16
  have c17 := wd_keep ew_2 (wd_ne c17 ht0 (by simp)) c17
  have ht0 : w_2 t = some (.inr (5, [.int (nI Ls.length), .ref (C 0), .ref (C 1), .ref (C 2), .ref (C 3), .ref (C 4), .int (nI ml.length), .ref (C 5), .ref (C 6), .int (nI Ps.length), .int (nI (hy_tot Ps)), .ref (C 7), .ref (C 8), .ref (C 9), .ref (C 10), .int (nI Ts.length), .ref (C 11), .ref (C 12), .ref (C 13), .ref (C 14), .int 0, .ref (C 15), .ref (C 16), .int (nI pl.length), .ref (C 17)])) := wd_here ew_2
  refine lv_iload_n hx hb d_Mo_clear_10 rfl (lv_at hl 0 rfl) ?_
  have hcF : mo_c G w_2 t C (fun k9 => M k9) (nI Ls.length) (nI ml.length) (nI Ps.length) (nI (hy_tot Ps)) (nI Ts.length) (nI ([] : List Int32).length) (nI pl.length) := ⟨ht0, c0, c1, c2, c3, c4, c5, c6, c7, c8, c9, c10, c11, c12, c13, c14, c15, c16, c17⟩
  exact ct_iret S hr rfl hlocks hW (⟨(Ls, Ps, Ts, ml, md, [], pl), ⟨ex_1, rfl⟩, ⟨C, (fun k9 => M k9), hcF, hT, hl0, hp0, hq0, hml, hmd, li_nil, hpl⟩, hmk⟩) (Nat.le_of_ble_eq_true rfl) (Nat.le_of_ble_eq_true rfl) d_Mo_clear_11

set_option maxHeartbeats 4000000 in
set_option maxRecDepth 100000 in
/-- the reference: at -/
theorem c_Mo_at (l : Launch) (G : ev_G) (w : wd_M) (sz : Nat) (tg : Nat → Nat) (t : Nat) (Ls : List hy_L) (Ps : List hy_P) (Ts : List hy_T) (ml md wd : List Int32) (pl : List Nat) (x : Int32) (h : mo_ G w tg t Ls Ps Ts ml md wd pl) (hwf : hy_wf Ls Ps Ts ml md wd pl) : ct_i l y_Mo_at b_Mo_at 2 (some FieldType.int) (rm_ 1 0 0) G w sz [.ref t, .int x] (mq_ G w tg t (sp_at x (Ls, Ps, Ts, ml, md, wd, pl))) := by
  refine ct_enter (by decide +kernel) (Nat.le_of_ble_eq_true rfl) ?_
  intro p_ e_ s m below meth c_ hsz S hr hlocks hname hE hW ls hl
  have S : CallFix p_ m c_ b_Mo_at 2 s _ lw_good "HyphenRowsModel" := S
  have hx := S.1
  have hb := S.2.1
  have hK := hE.1
  have hl : lv_has ls 2 [(0, .ref t), (1, .int x)] := hl
  obtain ⟨C, M, hc, hT, hl0, hp0, hq0, hml, hmd, hwd, hpl⟩ := id h
  obtain ⟨ht0, c0, c1, c2, c3, c4, c5, c6, c7, c8, c9, c10, c11, c12, c13, c14, c15, c16, c17⟩ := id hc
  obtain ⟨wL, wP, wT, wm, wml, wwd, wpl, wtot, wmx, wdx, wws, wplx, wlg, wps, wts⟩ := id hwf
  have hmk : mk_ w w tg := mk_rf
  refine lv_iload_n hx hb d_Mo_at_0 rfl (lv_at hl 1 rfl) ?_
  refine lv_if_lt (tgt := 12) hx hb d_Mo_at_1 (by decide) (fun h1 => ?_) (fun h1 => ?_)
  · refine lv_iconst (v := -1) hx hb d_Mo_at_12 (by decide) ?_
    refine lv_goto (tgt := 22) hx hb d_Mo_at_13 (by decide) ?_
    exact ct_iret S hr rfl hlocks hW (⟨_, ⟨rfl, Or.inl ⟨fun q => q.1 h1, rfl⟩⟩, h, mk_rf⟩) (Nat.le_of_ble_eq_true rfl) (Nat.le_of_ble_eq_true rfl) d_Mo_at_22
  · refine lv_iload_n hx hb d_Mo_at_4 rfl (lv_at hl 1 rfl) ?_
    refine lv_aload_n hx hb d_Mo_at_5 rfl (lv_at hl 0 rfl) ?_
    refine wd_get S i_Mo hK hW ht0 rfl 23 (by decide) k_Mo_110 rfl rfl d_Mo_at_6 ?_
    refine lv_icmp_lt (tgt := 16) hx hb d_Mo_at_9 (by decide) (fun h9 => ?_) (fun h9 => ?_)
    · obtain ⟨k, hk, rfl⟩ := nm_of (n := pl.length) ⟨h1, Int32.not_le.mpr h9⟩ (by omega)
      have hpk : pl[k]? = some pl[k] := List.getElem?_eq_getElem hk
      refine lv_aload_n hx hb d_Mo_at_16 rfl (lv_at hl 0 rfl) ?_
      refine wd_get S i_Mo hK hW ht0 rfl 24 (by decide) k_Mo_62 rfl rfl d_Mo_at_17 ?_
      refine lv_iload_n hx hb d_Mo_at_20 rfl (lv_at hl 1 rfl) ?_
      refine wd_iald S hK hW 0 c17 rfl (vp_in_nI (by omega) (by omega)) d_Mo_at_21 ?_
      rw [nI_clamp (by omega), hpl k (nI pl[k]) (by rw [List.getElem?_map, hpk]; rfl)]
      exact ct_iret S hr rfl hlocks hW (⟨_, ⟨rfl, Or.inr ⟨k, pl[k], rfl, hpk, rfl⟩⟩, h, mk_rf⟩) (Nat.le_of_ble_eq_true rfl) (Nat.le_of_ble_eq_true rfl) d_Mo_at_22
    · refine lv_iconst (v := -1) hx hb d_Mo_at_12 (by decide) ?_
      refine lv_goto (tgt := 22) hx hb d_Mo_at_13 (by decide) ?_
      exact ct_iret S hr rfl hlocks hW (⟨_, ⟨rfl, Or.inl ⟨fun q => q.2 (Int32.not_lt.mp h9), rfl⟩⟩, h, mk_rf⟩) (Nat.le_of_ble_eq_true rfl) (Nat.le_of_ble_eq_true rfl) d_Mo_at_22

set_option maxHeartbeats 4000000 in
set_option maxRecDepth 100000 in
/-- the reference: sign -/
theorem c_Mo_sign (l : Launch) (G : ev_G) (w : wd_M) (sz : Nat) (tg : Nat → Nat) (t : Nat) (Ls : List hy_L) (Ps : List hy_P) (Ts : List hy_T) (ml md wd : List Int32) (pl : List Nat) (x : Int32) (h : mo_ G w tg t Ls Ps Ts ml md wd pl) (hwf : hy_wf Ls Ps Ts ml md wd pl) : ct_i l y_Mo_sign b_Mo_sign 2 (some FieldType.int) (rm_ 1 0 0) G w sz [.ref t, .int x] (mq_ G w tg t (sp_sign x (Ls, Ps, Ts, ml, md, wd, pl))) := by
  refine ct_enter (by decide +kernel) (Nat.le_of_ble_eq_true rfl) ?_
  intro p_ e_ s m below meth c_ hsz S hr hlocks hname hE hW ls hl
  have S : CallFix p_ m c_ b_Mo_sign 2 s _ lw_good "HyphenRowsModel" := S
  have hx := S.1
  have hb := S.2.1
  have hK := hE.1
  have hl : lv_has ls 2 [(0, .ref t), (1, .int x)] := hl
  obtain ⟨C, M, hc, hT, hl0, hp0, hq0, hml, hmd, hwd, hpl⟩ := id h
  obtain ⟨ht0, c0, c1, c2, c3, c4, c5, c6, c7, c8, c9, c10, c11, c12, c13, c14, c15, c16, c17⟩ := id hc
  obtain ⟨wL, wP, wT, wm, wml, wwd, wpl, wtot, wmx, wdx, wws, wplx, wlg, wps, wts⟩ := id hwf
  have hmk : mk_ w w tg := mk_rf
  refine lv_iload_n hx hb d_Mo_sign_0 rfl (lv_at hl 1 rfl) ?_
  refine lv_iconst (v := 0) hx hb d_Mo_sign_1 (by decide) ?_
  refine lv_sipush (v := 255) hx hb d_Mo_sign_2 (by decide) ?_
  refine ct_goi hW (ct_runS (As := [.int x, .int 0, .int 255]) (rest := []) S hE hW (c_Mo_in l G _ _ x 0 255) kc_Mo_in kz_Mo k_Mo_73 ks_Mo_in kd_Mo_in ⟨Nat.le_of_ble_eq_true rfl, Nat.le_of_ble_eq_true rfl⟩ hl.1 (Nat.le_of_ble_eq_true rfl) d_Mo_sign_5 ⟨Nat.le_of_ble_eq_true rfl, Nat.le_of_ble_eq_true rfl⟩) (fun v_3 u_1 H locs hp_2 hW => ?_)
  obtain ⟨hv, hu_4⟩ := hp_2
  rw [hu_4] at hW
  refine lv_if_ne (tgt := 13) hx hb d_Mo_sign_8 (by decide) (fun h8 => ?_) (fun h8 => ?_)
  · have hok : ok_s x := bl_t hv h8
    refine lv_aload_n hx hb d_Mo_sign_13 rfl (lv_at hl 0 rfl) ?_
    refine wd_get S i_Mo hK hW ht0 rfl 20 (by decide) k_Mo_94 rfl rfl d_Mo_sign_14 ?_
    refine lv_bipush (v := 30) hx hb d_Mo_sign_17 (by decide) ?_
    refine lv_icmp_ne (tgt := 25) hx hb d_Mo_sign_19 (by decide) (fun h19 => ?_) (fun h19 => ?_)
    · have hlt : wd.length < 30 := Nat.lt_of_le_of_ne wwd (fun q => h19 (by rw [q]; rfl))
      refine lv_aload_n hx hb d_Mo_sign_25 rfl (lv_at hl 0 rfl) ?_
      refine wd_get S i_Mo hK hW ht0 rfl 21 (by decide) k_Mo_56 rfl rfl d_Mo_sign_26 ?_
      refine lv_aload_n hx hb d_Mo_sign_29 rfl (lv_at hl 0 rfl) ?_
      refine wd_get S i_Mo hK hW ht0 rfl 20 (by decide) k_Mo_94 rfl rfl d_Mo_sign_30 ?_
      refine lv_iload_n hx hb d_Mo_sign_33 rfl (lv_at hl 1 rfl) ?_
      refine wd_iast S hK hW 0 c15 rfl (vp_in_nI (by omega) (by omega)) d_Mo_sign_34 (fun H locs w_5 ew_5 hW => ?_)
      have hmk := mk_up hmk c15 ew_5 (by rw [hT.2 15 (by omega)]; omega)
      have ht0 := wd_keep ew_5 (wd_ne ht0 c15 (by simp)) ht0
      have c0 := wd_keep ew_5 (tg_ne (tg := tg) (by rw [hT.2 0 (by omega), hT.2 15 (by omega)]; omega)) c0
      have c1 := wd_keep ew_5 (tg_ne (tg := tg) (by rw [hT.2 1 (by omega), hT.2 15 (by omega)]; omega)) c1
      have c2 := wd_keep ew_5 (tg_ne (tg := tg) (by rw [hT.2 2 (by omega), hT.2 15 (by omega)]; omega)) c2
      have c3 := wd_keep ew_5 (tg_ne (tg := tg) (by rw [hT.2 3 (by omega), hT.2 15 (by omega)]; omega)) c3
      have c4 := wd_keep ew_5 (tg_ne (tg := tg) (by rw [hT.2 4 (by omega), hT.2 15 (by omega)]; omega)) c4
      have c5 := wd_keep ew_5 (tg_ne (tg := tg) (by rw [hT.2 5 (by omega), hT.2 15 (by omega)]; omega)) c5
      have c6 := wd_keep ew_5 (tg_ne (tg := tg) (by rw [hT.2 6 (by omega), hT.2 15 (by omega)]; omega)) c6
      have c7 := wd_keep ew_5 (tg_ne (tg := tg) (by rw [hT.2 7 (by omega), hT.2 15 (by omega)]; omega)) c7
      have c8 := wd_keep ew_5 (tg_ne (tg := tg) (by rw [hT.2 8 (by omega), hT.2 15 (by omega)]; omega)) c8
      have c9 := wd_keep ew_5 (tg_ne (tg := tg) (by rw [hT.2 9 (by omega), hT.2 15 (by omega)]; omega)) c9
      have c10 := wd_keep ew_5 (tg_ne (tg := tg) (by rw [hT.2 10 (by omega), hT.2 15 (by omega)]; omega)) c10
      have c11 := wd_keep ew_5 (tg_ne (tg := tg) (by rw [hT.2 11 (by omega), hT.2 15 (by omega)]; omega)) c11
      have c12 := wd_keep ew_5 (tg_ne (tg := tg) (by rw [hT.2 12 (by omega), hT.2 15 (by omega)]; omega)) c12
      have c13 := wd_keep ew_5 (tg_ne (tg := tg) (by rw [hT.2 13 (by omega), hT.2 15 (by omega)]; omega)) c13
      have c14 := wd_keep ew_5 (tg_ne (tg := tg) (by rw [hT.2 14 (by omega), hT.2 15 (by omega)]; omega)) c14
      have c16 := wd_keep ew_5 (tg_ne (tg := tg) (by rw [hT.2 16 (by omega), hT.2 15 (by omega)]; omega)) c16
      have c17 := wd_keep ew_5 (tg_ne (tg := tg) (by rw [hT.2 17 (by omega), hT.2 15 (by omega)]; omega)) c17
      have c15 : w_5 (C 15) = some (.inl (G.2.1 0, 30, .inl (upd (M 15) ((nI wd.length) : Int32).toNatClampNeg x))) := wd_here ew_5
      rw [nI_clamp (by omega)] at c15
      refine lv_aload_n hx hb d_Mo_sign_35 rfl (lv_at hl 0 rfl) ?_
      refine lv_dup hx hb d_Mo_sign_36 rfl ?_
      refine wd_get S i_Mo hK hW ht0 rfl 20 (by decide) k_Mo_94 rfl rfl d_Mo_sign_37 ?_
      refine lv_iconst (v := 1) hx hb d_Mo_sign_40 (by decide) ?_
      refine lv_iadd hx hb d_Mo_sign_41 ?_
      refine lv_topi (fun nl enl => ?_)
      rw [nI_1] at enl
      refine wd_put S i_Mo t_Mo t_Mo_ok n_Mo hK hW ht0 rfl 20 (by decide) k_Mo_94 rfl rfl rfl rfl (Nat.le_of_ble_eq_true rfl) d_Mo_sign_42 (fun H locs w_6 ew_6 hW => ?_)
      have hmk := mk_up hmk ht0 ew_6 (by rw [hT.1]; omega)
      have c0 := wd_keep ew_6 (wd_ne c0 ht0 (by simp)) c0
      have c1 := wd_keep ew_6 (wd_ne c1 ht0 (by simp)) c1
      have c2 := wd_keep ew_6 (wd_ne c2 ht0 (by simp)) c2
      have c3 := wd_keep ew_6 (wd_ne c3 ht0 (by simp)) c3
      have c4 := wd_keep ew_6 (wd_ne c4 ht0 (by simp)) c4
      have c5 := wd_keep ew_6 (wd_ne c5 ht0 (by simp)) c5
      have c6 := wd_keep ew_6 (wd_ne c6 ht0 (by simp)) c6
      have c7 := wd_keep ew_6 (wd_ne c7 ht0 (by simp)) c7
      have c8 := wd_keep ew_6 (wd_ne c8 ht0 (by simp)) c8
      have c9 := wd_keep ew_6 (wd_ne c9 ht0 (by simp)) c9
      have c10 := wd_keep ew_6 (wd_ne c10 ht0 (by simp)) c10
      have c11 := wd_keep ew_6 (wd_ne c11 ht0 (by simp)) c11
      have c12 := wd_keep ew_6 (wd_ne c12 ht0 (by simp)) c12
      have c13 := wd_keep ew_6 (wd_ne c13 ht0 (by simp)) c13
      have c14 := wd_keep ew_6 (wd_ne c14 ht0 (by simp)) c14
      have c15 := wd_keep ew_6 (wd_ne c15 ht0 (by simp)) c15
      have c16 := wd_keep ew_6 (wd_ne c16 ht0 (by simp)) c16
      have c17 := wd_keep ew_6 (wd_ne c17 ht0 (by simp)) c17
      have ht0 : w_6 t = some (.inr (5, [.int (nI Ls.length), .ref (C 0), .ref (C 1), .ref (C 2), .ref (C 3), .ref (C 4), .int (nI ml.length), .ref (C 5), .ref (C 6), .int (nI Ps.length), .int (nI (hy_tot Ps)), .ref (C 7), .ref (C 8), .ref (C 9), .ref (C 10), .int (nI Ts.length), .ref (C 11), .ref (C 12), .ref (C 13), .ref (C 14), .int nl, .ref (C 15), .ref (C 16), .int (nI pl.length), .ref (C 17)])) := wd_here ew_6
      refine lv_aload_n hx hb d_Mo_sign_45 rfl (lv_at hl 0 rfl) ?_
      refine wd_get S i_Mo hK hW ht0 rfl 20 (by decide) k_Mo_94 rfl rfl d_Mo_sign_46 ?_
      rw [enl] at ht0
      rw [enl]
      have hcF : mo_c G w_6 t C (fun k9 => if k9 = 15 then upd (M 15) wd.length x else M k9) (nI Ls.length) (nI ml.length) (nI Ps.length) (nI (hy_tot Ps)) (nI Ts.length) (nI (wd ++ [x]).length) (nI pl.length) := by rw [List.length_append]; exact ⟨ht0, c0, c1, c2, c3, c4, c5, c6, c7, c8, c9, c10, c11, c12, c13, c14, c15, c16, c17⟩
      exact ct_iret S hr rfl hlocks hW (⟨(Ls, Ps, Ts, ml, md, wd ++ [x], pl), Or.inr (Or.inr ⟨hok, hlt, rfl, rfl⟩), ⟨C, (fun k9 => if k9 = 15 then upd (M 15) wd.length x else M k9), hcF, hT, (mo_lc hl0 (fun k9 h2 => by show (if k9 = 15 then upd (M 15) wd.length x else M k9) = M k9; rw [if_neg (by omega)])), (mo_pc hp0 (fun k9 h1 h2 => by show (if k9 = 15 then upd (M 15) wd.length x else M k9) = M k9; rw [if_neg (by omega)])), (mo_tc hq0 (fun k9 h1 h2 => by show (if k9 = 15 then upd (M 15) wd.length x else M k9) = M k9; rw [if_neg (by omega)])), hml, hmd, li_put hwd, hpl⟩, hmk⟩) (Nat.le_of_ble_eq_true rfl) (Nat.le_of_ble_eq_true rfl) d_Mo_sign_49
    · refine lv_bipush (v := -2) hx hb d_Mo_sign_22 (by decide) ?_
      exact ct_iret S hr rfl hlocks hW (⟨_, Or.inr (Or.inl ⟨hok, fun q => absurd ((nI_eq (a := wd.length) (b := 30) (by omega) (by omega)).mp h19) (by have q : wd.length < 30 := q; omega), rfl, rfl⟩), h, mk_rf⟩) (Nat.le_of_ble_eq_true rfl) (Nat.le_of_ble_eq_true rfl) d_Mo_sign_24
  · refine lv_iconst (v := -1) hx hb d_Mo_sign_11 (by decide) ?_
    exact ct_iret S hr rfl hlocks hW (⟨_, Or.inl ⟨fun q => bl_f hv h8 q, rfl, rfl⟩, h, mk_rf⟩) (Nat.le_of_ble_eq_true rfl) (Nat.le_of_ble_eq_true rfl) d_Mo_sign_12

set_option maxHeartbeats 4000000 in
set_option maxRecDepth 100000 in
/-- the reference: next -/
theorem c_Mo_next (l : Launch) (G : ev_G) (w : wd_M) (sz : Nat) (tg : Nat → Nat) (t : Nat) (Ls : List hy_L) (Ps : List hy_P) (Ts : List hy_T) (ml md wd : List Int32) (pl : List Nat) (x d : Int32) (h : mo_ G w tg t Ls Ps Ts ml md wd pl) (hwf : hy_wf Ls Ps Ts ml md wd pl) : ct_i l y_Mo_next b_Mo_next 3 (some FieldType.int) (rm_ 1 0 0) G w sz [.ref t, .int x, .int d] (mq_ G w tg t (sp_next x d (Ls, Ps, Ts, ml, md, wd, pl))) := by
  refine ct_enter (by decide +kernel) (Nat.le_of_ble_eq_true rfl) ?_
  intro p_ e_ s m below meth c_ hsz S hr hlocks hname hE hW ls hl
  have S : CallFix p_ m c_ b_Mo_next 3 s _ lw_good "HyphenRowsModel" := S
  have hx := S.1
  have hb := S.2.1
  have hK := hE.1
  have hl : lv_has ls 3 [(0, .ref t), (1, .int x), (2, .int d)] := hl
  obtain ⟨C, M, hc, hT, hl0, hp0, hq0, hml, hmd, hwd, hpl⟩ := id h
  obtain ⟨ht0, c0, c1, c2, c3, c4, c5, c6, c7, c8, c9, c10, c11, c12, c13, c14, c15, c16, c17⟩ := id hc
  obtain ⟨wL, wP, wT, wm, wml, wwd, wpl, wtot, wmx, wdx, wws, wplx, wlg, wps, wts⟩ := id hwf
  have hmk : mk_ w w tg := mk_rf
  refine lv_iload_n hx hb d_Mo_next_0 rfl (lv_at hl 1 rfl) ?_
  refine lv_iconst (v := 0) hx hb d_Mo_next_1 (by decide) ?_
  refine lv_bipush (v := 30) hx hb d_Mo_next_2 (by decide) ?_
  refine ct_goi hW (ct_runS (As := [.int x, .int 0, .int 30]) (rest := []) S hE hW (c_Mo_in l G _ _ x 0 30) kc_Mo_in kz_Mo k_Mo_73 ks_Mo_in kd_Mo_in ⟨Nat.le_of_ble_eq_true rfl, Nat.le_of_ble_eq_true rfl⟩ hl.1 (Nat.le_of_ble_eq_true rfl) d_Mo_next_4 ⟨Nat.le_of_ble_eq_true rfl, Nat.le_of_ble_eq_true rfl⟩) (fun v_3 u_1 H locs hp_2 hW => ?_)
  obtain ⟨hv, hu_4⟩ := hp_2
  rw [hu_4] at hW
  refine lv_if_eq (tgt := 20) hx hb d_Mo_next_7 (by decide) (fun h7 => ?_) (fun h7 => ?_)
  · refine lv_iconst (v := -1) hx hb d_Mo_next_20 (by decide) ?_
    exact ct_iret S hr rfl hlocks hW (⟨_, Or.inl ⟨fun q => bl_f hv h7 q.1, rfl, rfl⟩, h, mk_rf⟩) (Nat.le_of_ble_eq_true rfl) (Nat.le_of_ble_eq_true rfl) d_Mo_next_21
  · refine lv_iload_n hx hb d_Mo_next_10 rfl (lv_at hl 2 rfl) ?_
    refine lv_iconst (v := 0) hx hb d_Mo_next_11 (by decide) ?_
    refine lv_bipush (v := 9) hx hb d_Mo_next_12 (by decide) ?_
    refine ct_goi hW (ct_runS (As := [.int d, .int 0, .int 9]) (rest := []) S hE hW (c_Mo_in l G _ _ d 0 9) kc_Mo_in kz_Mo k_Mo_73 ks_Mo_in kd_Mo_in ⟨Nat.le_of_ble_eq_true rfl, Nat.le_of_ble_eq_true rfl⟩ hl.1 (Nat.le_of_ble_eq_true rfl) d_Mo_next_14 ⟨Nat.le_of_ble_eq_true rfl, Nat.le_of_ble_eq_true rfl⟩) (fun v_7 u_5 H locs hp_6 hW => ?_)
    obtain ⟨hv2, hu_8⟩ := hp_6
    rw [hu_8] at hW
    refine lv_if_ne (tgt := 22) hx hb d_Mo_next_17 (by decide) (fun h17 => ?_) (fun h17 => ?_)
    · have hok : ok_l x ∧ ok_d d := ⟨bl_t hv h7, bl_t hv2 h17⟩
      refine lv_aload_n hx hb d_Mo_next_22 rfl (lv_at hl 0 rfl) ?_
      refine wd_get S i_Mo hK hW ht0 rfl 6 (by decide) k_Mo_77 rfl rfl d_Mo_next_23 ?_
      refine lv_bipush (v := 12) hx hb d_Mo_next_26 (by decide) ?_
      refine lv_icmp_ne (tgt := 34) hx hb d_Mo_next_28 (by decide) (fun h28 => ?_) (fun h28 => ?_)
      · have hlt : ml.length < 12 := Nat.lt_of_le_of_ne wml (fun q => h28 (by rw [q]; rfl))
        refine lv_aload_n hx hb d_Mo_next_34 rfl (lv_at hl 0 rfl) ?_
        refine wd_get S i_Mo hK hW ht0 rfl 7 (by decide) k_Mo_26 rfl rfl d_Mo_next_35 ?_
        refine lv_aload_n hx hb d_Mo_next_38 rfl (lv_at hl 0 rfl) ?_
        refine wd_get S i_Mo hK hW ht0 rfl 6 (by decide) k_Mo_77 rfl rfl d_Mo_next_39 ?_
        refine lv_iload_n hx hb d_Mo_next_42 rfl (lv_at hl 1 rfl) ?_
        refine wd_iast S hK hW 0 c5 rfl (vp_in_nI (by omega) (by omega)) d_Mo_next_43 (fun H locs w_9 ew_9 hW => ?_)
        have hmk := mk_up hmk c5 ew_9 (by rw [hT.2 5 (by omega)]; omega)
        have ht0 := wd_keep ew_9 (wd_ne ht0 c5 (by simp)) ht0
        have c0 := wd_keep ew_9 (tg_ne (tg := tg) (by rw [hT.2 0 (by omega), hT.2 5 (by omega)]; omega)) c0
        have c1 := wd_keep ew_9 (tg_ne (tg := tg) (by rw [hT.2 1 (by omega), hT.2 5 (by omega)]; omega)) c1
        have c2 := wd_keep ew_9 (tg_ne (tg := tg) (by rw [hT.2 2 (by omega), hT.2 5 (by omega)]; omega)) c2
        have c3 := wd_keep ew_9 (tg_ne (tg := tg) (by rw [hT.2 3 (by omega), hT.2 5 (by omega)]; omega)) c3
        have c4 := wd_keep ew_9 (tg_ne (tg := tg) (by rw [hT.2 4 (by omega), hT.2 5 (by omega)]; omega)) c4
        have c6 := wd_keep ew_9 (tg_ne (tg := tg) (by rw [hT.2 6 (by omega), hT.2 5 (by omega)]; omega)) c6
        have c7 := wd_keep ew_9 (tg_ne (tg := tg) (by rw [hT.2 7 (by omega), hT.2 5 (by omega)]; omega)) c7
        have c8 := wd_keep ew_9 (tg_ne (tg := tg) (by rw [hT.2 8 (by omega), hT.2 5 (by omega)]; omega)) c8
        have c9 := wd_keep ew_9 (tg_ne (tg := tg) (by rw [hT.2 9 (by omega), hT.2 5 (by omega)]; omega)) c9
        have c10 := wd_keep ew_9 (tg_ne (tg := tg) (by rw [hT.2 10 (by omega), hT.2 5 (by omega)]; omega)) c10
        have c11 := wd_keep ew_9 (tg_ne (tg := tg) (by rw [hT.2 11 (by omega), hT.2 5 (by omega)]; omega)) c11
        have c12 := wd_keep ew_9 (tg_ne (tg := tg) (by rw [hT.2 12 (by omega), hT.2 5 (by omega)]; omega)) c12
        have c13 := wd_keep ew_9 (tg_ne (tg := tg) (by rw [hT.2 13 (by omega), hT.2 5 (by omega)]; omega)) c13
        have c14 := wd_keep ew_9 (tg_ne (tg := tg) (by rw [hT.2 14 (by omega), hT.2 5 (by omega)]; omega)) c14
        have c15 := wd_keep ew_9 (tg_ne (tg := tg) (by rw [hT.2 15 (by omega), hT.2 5 (by omega)]; omega)) c15
        have c16 := wd_keep ew_9 (tg_ne (tg := tg) (by rw [hT.2 16 (by omega), hT.2 5 (by omega)]; omega)) c16
        have c17 := wd_keep ew_9 (tg_ne (tg := tg) (by rw [hT.2 17 (by omega), hT.2 5 (by omega)]; omega)) c17
        have c5 : w_9 (C 5) = some (.inl (G.2.1 0, 12, .inl (upd (M 5) ((nI ml.length) : Int32).toNatClampNeg x))) := wd_here ew_9
        rw [nI_clamp (by omega)] at c5
        refine lv_aload_n hx hb d_Mo_next_44 rfl (lv_at hl 0 rfl) ?_
        refine wd_get S i_Mo hK hW ht0 rfl 8 (by decide) k_Mo_29 rfl rfl d_Mo_next_45 ?_
        refine lv_aload_n hx hb d_Mo_next_48 rfl (lv_at hl 0 rfl) ?_
        refine wd_get S i_Mo hK hW ht0 rfl 6 (by decide) k_Mo_77 rfl rfl d_Mo_next_49 ?_
        refine lv_iload_n hx hb d_Mo_next_52 rfl (lv_at hl 2 rfl) ?_
        refine wd_iast S hK hW 0 c6 rfl (vp_in_nI (by omega) (by omega)) d_Mo_next_53 (fun H locs w_10 ew_10 hW => ?_)
        have hmk := mk_up hmk c6 ew_10 (by rw [hT.2 6 (by omega)]; omega)
        have ht0 := wd_keep ew_10 (wd_ne ht0 c6 (by simp)) ht0
        have c0 := wd_keep ew_10 (tg_ne (tg := tg) (by rw [hT.2 0 (by omega), hT.2 6 (by omega)]; omega)) c0
        have c1 := wd_keep ew_10 (tg_ne (tg := tg) (by rw [hT.2 1 (by omega), hT.2 6 (by omega)]; omega)) c1
        have c2 := wd_keep ew_10 (tg_ne (tg := tg) (by rw [hT.2 2 (by omega), hT.2 6 (by omega)]; omega)) c2
        have c3 := wd_keep ew_10 (tg_ne (tg := tg) (by rw [hT.2 3 (by omega), hT.2 6 (by omega)]; omega)) c3
        have c4 := wd_keep ew_10 (tg_ne (tg := tg) (by rw [hT.2 4 (by omega), hT.2 6 (by omega)]; omega)) c4
        have c5 := wd_keep ew_10 (tg_ne (tg := tg) (by rw [hT.2 5 (by omega), hT.2 6 (by omega)]; omega)) c5
        have c7 := wd_keep ew_10 (tg_ne (tg := tg) (by rw [hT.2 7 (by omega), hT.2 6 (by omega)]; omega)) c7
        have c8 := wd_keep ew_10 (tg_ne (tg := tg) (by rw [hT.2 8 (by omega), hT.2 6 (by omega)]; omega)) c8
        have c9 := wd_keep ew_10 (tg_ne (tg := tg) (by rw [hT.2 9 (by omega), hT.2 6 (by omega)]; omega)) c9
        have c10 := wd_keep ew_10 (tg_ne (tg := tg) (by rw [hT.2 10 (by omega), hT.2 6 (by omega)]; omega)) c10
        have c11 := wd_keep ew_10 (tg_ne (tg := tg) (by rw [hT.2 11 (by omega), hT.2 6 (by omega)]; omega)) c11
        have c12 := wd_keep ew_10 (tg_ne (tg := tg) (by rw [hT.2 12 (by omega), hT.2 6 (by omega)]; omega)) c12
        have c13 := wd_keep ew_10 (tg_ne (tg := tg) (by rw [hT.2 13 (by omega), hT.2 6 (by omega)]; omega)) c13
        have c14 := wd_keep ew_10 (tg_ne (tg := tg) (by rw [hT.2 14 (by omega), hT.2 6 (by omega)]; omega)) c14
        have c15 := wd_keep ew_10 (tg_ne (tg := tg) (by rw [hT.2 15 (by omega), hT.2 6 (by omega)]; omega)) c15
        have c16 := wd_keep ew_10 (tg_ne (tg := tg) (by rw [hT.2 16 (by omega), hT.2 6 (by omega)]; omega)) c16
        have c17 := wd_keep ew_10 (tg_ne (tg := tg) (by rw [hT.2 17 (by omega), hT.2 6 (by omega)]; omega)) c17
        have c6 : w_10 (C 6) = some (.inl (G.2.1 0, 13, .inl (upd (M 6) ((nI ml.length) : Int32).toNatClampNeg d))) := wd_here ew_10
        rw [nI_clamp (by omega)] at c6
        refine lv_aload_n hx hb d_Mo_next_54 rfl (lv_at hl 0 rfl) ?_
        refine lv_dup hx hb d_Mo_next_55 rfl ?_
        refine wd_get S i_Mo hK hW ht0 rfl 6 (by decide) k_Mo_77 rfl rfl d_Mo_next_56 ?_
        refine lv_iconst (v := 1) hx hb d_Mo_next_59 (by decide) ?_
        refine lv_iadd hx hb d_Mo_next_60 ?_
        refine lv_topi (fun nl enl => ?_)
        rw [nI_1] at enl
        refine wd_put S i_Mo t_Mo t_Mo_ok n_Mo hK hW ht0 rfl 6 (by decide) k_Mo_77 rfl rfl rfl rfl (Nat.le_of_ble_eq_true rfl) d_Mo_next_61 (fun H locs w_11 ew_11 hW => ?_)
        have hmk := mk_up hmk ht0 ew_11 (by rw [hT.1]; omega)
        have c0 := wd_keep ew_11 (wd_ne c0 ht0 (by simp)) c0
        have c1 := wd_keep ew_11 (wd_ne c1 ht0 (by simp)) c1
        have c2 := wd_keep ew_11 (wd_ne c2 ht0 (by simp)) c2
        have c3 := wd_keep ew_11 (wd_ne c3 ht0 (by simp)) c3
        have c4 := wd_keep ew_11 (wd_ne c4 ht0 (by simp)) c4
        have c5 := wd_keep ew_11 (wd_ne c5 ht0 (by simp)) c5
        have c6 := wd_keep ew_11 (wd_ne c6 ht0 (by simp)) c6
        have c7 := wd_keep ew_11 (wd_ne c7 ht0 (by simp)) c7
        have c8 := wd_keep ew_11 (wd_ne c8 ht0 (by simp)) c8
        have c9 := wd_keep ew_11 (wd_ne c9 ht0 (by simp)) c9
        have c10 := wd_keep ew_11 (wd_ne c10 ht0 (by simp)) c10
        have c11 := wd_keep ew_11 (wd_ne c11 ht0 (by simp)) c11
        have c12 := wd_keep ew_11 (wd_ne c12 ht0 (by simp)) c12
        have c13 := wd_keep ew_11 (wd_ne c13 ht0 (by simp)) c13
        have c14 := wd_keep ew_11 (wd_ne c14 ht0 (by simp)) c14
        have c15 := wd_keep ew_11 (wd_ne c15 ht0 (by simp)) c15
        have c16 := wd_keep ew_11 (wd_ne c16 ht0 (by simp)) c16
        have c17 := wd_keep ew_11 (wd_ne c17 ht0 (by simp)) c17
        have ht0 : w_11 t = some (.inr (5, [.int (nI Ls.length), .ref (C 0), .ref (C 1), .ref (C 2), .ref (C 3), .ref (C 4), .int nl, .ref (C 5), .ref (C 6), .int (nI Ps.length), .int (nI (hy_tot Ps)), .ref (C 7), .ref (C 8), .ref (C 9), .ref (C 10), .int (nI Ts.length), .ref (C 11), .ref (C 12), .ref (C 13), .ref (C 14), .int (nI wd.length), .ref (C 15), .ref (C 16), .int (nI pl.length), .ref (C 17)])) := wd_here ew_11
        refine lv_aload_n hx hb d_Mo_next_64 rfl (lv_at hl 0 rfl) ?_
        refine wd_get S i_Mo hK hW ht0 rfl 6 (by decide) k_Mo_77 rfl rfl d_Mo_next_65 ?_
        rw [enl] at ht0
        rw [enl]
        have hmd2 : li_ (md ++ [d]) (upd (M 6) ml.length d) := by rw [wm]; exact li_put hmd
        have hcF : mo_c G w_11 t C (fun k9 => if k9 = 6 then upd (M 6) ml.length d else if k9 = 5 then upd (M 5) ml.length x else M k9) (nI Ls.length) (nI (ml ++ [x]).length) (nI Ps.length) (nI (hy_tot Ps)) (nI Ts.length) (nI wd.length) (nI pl.length) := by rw [List.length_append]; exact ⟨ht0, c0, c1, c2, c3, c4, c5, c6, c7, c8, c9, c10, c11, c12, c13, c14, c15, c16, c17⟩
        exact ct_iret S hr rfl hlocks hW (⟨(Ls, Ps, Ts, ml ++ [x], md ++ [d], wd, pl), Or.inr (Or.inr ⟨hok, hlt, rfl, rfl⟩), ⟨C, (fun k9 => if k9 = 6 then upd (M 6) ml.length d else if k9 = 5 then upd (M 5) ml.length x else M k9), hcF, hT, (mo_lc hl0 (fun k9 h2 => by show (if k9 = 6 then upd (M 6) ml.length d else if k9 = 5 then upd (M 5) ml.length x else M k9) = M k9; rw [if_neg (by omega), if_neg (by omega)])), (mo_pc hp0 (fun k9 h1 h2 => by show (if k9 = 6 then upd (M 6) ml.length d else if k9 = 5 then upd (M 5) ml.length x else M k9) = M k9; rw [if_neg (by omega), if_neg (by omega)])), (mo_tc hq0 (fun k9 h1 h2 => by show (if k9 = 6 then upd (M 6) ml.length d else if k9 = 5 then upd (M 5) ml.length x else M k9) = M k9; rw [if_neg (by omega), if_neg (by omega)])), li_put hml, hmd2, hwd, hpl⟩, hmk⟩) (Nat.le_of_ble_eq_true rfl) (Nat.le_of_ble_eq_true rfl) d_Mo_next_68
      · refine lv_bipush (v := -2) hx hb d_Mo_next_31 (by decide) ?_
        exact ct_iret S hr rfl hlocks hW (⟨_, Or.inr (Or.inl ⟨hok, fun q => absurd ((nI_eq (a := ml.length) (b := 12) (by omega) (by omega)).mp h28) (by have q : ml.length < 12 := q; omega), rfl, rfl⟩), h, mk_rf⟩) (Nat.le_of_ble_eq_true rfl) (Nat.le_of_ble_eq_true rfl) d_Mo_next_33
    · refine lv_iconst (v := -1) hx hb d_Mo_next_20 (by decide) ?_
      exact ct_iret S hr rfl hlocks hW (⟨_, Or.inl ⟨fun q => bl_f hv2 h17 q.2, rfl, rfl⟩, h, mk_rf⟩) (Nat.le_of_ble_eq_true rfl) (Nat.le_of_ble_eq_true rfl) d_Mo_next_21
end
section
/-! THE REFERENCE: languages, codes, ends; looking at the row in the making. -/

theorem mo_l_add {Ls : List hy_L} {M M2 : Nat → Nat → Int32} (h : mo_l Ls M) (hn : Ls.length < 4) (e0 : M2 0 = M 0) (e1 : M2 1 = M 1) (e2 : M2 2 = upd (M 2) Ls.length 2) (e3 : M2 3 = upd (M 3) Ls.length 3) (e4 : M2 4 = M 4) : mo_l (Ls ++ [((fun _ => 0), (fun _ => 0), 2, 3, 0)]) M2 := by
  unfold mo_l at h ⊢
  rw [e0, e1, e2, e3, e4]
  refine ⟨fun i lg hi => ?_, fun i h1 h2 => ?_⟩
  · by_cases hl : i < Ls.length
    · rw [List.getElem?_append_left hl] at hi
      obtain ⟨g1, g2, g3, g4⟩ := h.1 i lg hi
      exact ⟨g1, by rw [pk_un (by omega)]; exact g2, by rw [pk_un (by omega)]; exact g3, g4⟩
    · rw [List.getElem?_append_right (by omega)] at hi
      have h1 : i - Ls.length < 1 := (List.getElem?_eq_some_iff.mp hi).1
      have h2 : i = Ls.length := by omega
      subst h2
      rw [Nat.sub_self] at hi
      cases hi
      obtain ⟨g1, g2⟩ := h.2 Ls.length (Nat.le_refl _) hn
      exact ⟨g1, pk_us, pk_us, g2⟩
  · rw [List.length_append] at h1
    exact h.2 i (by omega) h2
theorem mo_l_set {Ls : List hy_L} {M M2 : Nat → Nat → Int32} {i : Nat} {lg2 : hy_L} (h : mo_l Ls M) (hi : i < Ls.length) (hk : ∀ j, j ≠ i → j < 4 → (∀ s, s < 256 → M2 0 (256 * j + s) = M 0 (256 * j + s) ∧ M2 1 (256 * j + s) = M 1 (256 * j + s)) ∧ M2 2 j = M 2 j ∧ M2 3 j = M 3 j ∧ M2 4 j = M 4 j) (h4 : Ls.length ≤ 4) (hs : (∀ s, s < 256 → M2 0 (256 * i + s) = lg2.1 s ∧ M2 1 (256 * i + s) = lg2.2.1 s) ∧ M2 2 i = nI lg2.2.2.1 ∧ M2 3 i = nI lg2.2.2.2.1 ∧ M2 4 i = lg2.2.2.2.2) : mo_l (Ls.set i lg2) M2 := by
  refine ⟨fun j lg hj => ?_, fun j h1 h2 => ?_⟩
  · by_cases hji : j = i
    · subst hji
      rw [List.getElem?_set_self hi] at hj
      cases hj
      exact hs
    · rw [List.getElem?_set_ne (Ne.symm hji)] at hj
      have hjl := (List.getElem?_eq_some_iff.mp hj).1
      obtain ⟨g1, g2, g3, g4⟩ := h.1 j lg hj
      obtain ⟨k1, k2, k3, k4⟩ := hk j hji (by omega)
      exact ⟨fun s hs => by rw [(k1 s hs).1, (k1 s hs).2]; exact g1 s hs, by rw [k2]; exact g2, by rw [k3]; exact g3, by rw [k4]; exact g4⟩
  · rw [List.length_set] at h1
    obtain ⟨g1, g2⟩ := h.2 j h1 h2
    obtain ⟨k1, k2, k3, k4⟩ := hk j (by omega) h2
    exact ⟨fun s hs => by rw [(k1 s hs).1, (k1 s hs).2]; exact g1 s hs, by rw [k4]; exact g2⟩
theorem ix_256 (i g : Nat) : (256 : Int32) * nI i + nI g = nI (256 * i + g) := by rw [show (256 : Int32) = nI 256 from rfl, pk_mul, nI_add]
theorem ix_12 (i g : Nat) : (12 : Int32) * nI i + nI g = nI (12 * i + g) := by rw [show (12 : Int32) = nI 12 from rfl, pk_mul, nI_add]
theorem ix_13 (i g : Nat) : (13 : Int32) * nI i + nI g = nI (13 * i + g) := by rw [show (13 : Int32) = nI 13 from rfl, pk_mul, nI_add]
theorem ix_30 (i g : Nat) : (30 : Int32) * nI i + nI g = nI (30 * i + g) := by rw [show (30 : Int32) = nI 30 from rfl, pk_mul, nI_add]
theorem mo_c_set {f g : Nat → Int32} {i gn : Nat} {x : Int32} (hf : ∀ s, s < 256 → f (256 * i + s) = g s) : ∀ s, s < 256 → upd f (256 * i + gn) x (256 * i + s) = upd g gn x s := by
  intro s hs
  by_cases h : s = gn
  · subst h
    rw [pk_us, pk_us]
  · rw [pk_un (by omega), pk_un h]
    exact hf s hs

set_option maxHeartbeats 4000000 in
set_option maxRecDepth 100000 in
/-- the reference: language -/
theorem c_Mo_language (l : Launch) (G : ev_G) (w : wd_M) (sz : Nat) (tg : Nat → Nat) (t : Nat) (Ls : List hy_L) (Ps : List hy_P) (Ts : List hy_T) (ml md wd : List Int32) (pl : List Nat) (h : mo_ G w tg t Ls Ps Ts ml md wd pl) (hwf : hy_wf Ls Ps Ts ml md wd pl) : ct_i l y_Mo_language b_Mo_language 1 (some FieldType.int) (rm_ 1 0 0) G w sz [.ref t] (mq_ G w tg t (sp_language (Ls, Ps, Ts, ml, md, wd, pl))) := by
  refine ct_enter (by decide +kernel) (Nat.le_of_ble_eq_true rfl) ?_
  intro p_ e_ s m below meth c_ hsz S hr hlocks hname hE hW ls hl
  have S : CallFix p_ m c_ b_Mo_language 1 s _ lw_good "HyphenRowsModel" := S
  have hx := S.1
  have hb := S.2.1
  have hK := hE.1
  have hl : lv_has ls 1 [(0, .ref t)] := hl
  obtain ⟨C, M, hc, hT, hl0, hp0, hq0, hml, hmd, hwd, hpl⟩ := id h
  obtain ⟨ht0, c0, c1, c2, c3, c4, c5, c6, c7, c8, c9, c10, c11, c12, c13, c14, c15, c16, c17⟩ := id hc
  obtain ⟨wL, wP, wT, wm, wml, wwd, wpl, wtot, wmx, wdx, wws, wplx, wlg, wps, wts⟩ := id hwf
  have hmk : mk_ w w tg := mk_rf
  refine lv_aload_n hx hb d_Mo_language_0 rfl (lv_at hl 0 rfl) ?_
  refine wd_get S i_Mo hK hW ht0 rfl 0 (by decide) k_Mo_65 rfl rfl d_Mo_language_1 ?_
  refine lv_iconst (v := 4) hx hb d_Mo_language_4 (by decide) ?_
  refine lv_icmp_ne (tgt := 11) hx hb d_Mo_language_5 (by decide) (fun h5 => ?_) (fun h5 => ?_)
  · have hlt : Ls.length < 4 := Nat.lt_of_le_of_ne wL (fun q => h5 (by rw [q]; rfl))
    refine lv_aload_n hx hb d_Mo_language_11 rfl (lv_at hl 0 rfl) ?_
    refine wd_get S i_Mo hK hW ht0 rfl 3 (by decide) k_Mo_17 rfl rfl d_Mo_language_12 ?_
    refine lv_aload_n hx hb d_Mo_language_15 rfl (lv_at hl 0 rfl) ?_
    refine wd_get S i_Mo hK hW ht0 rfl 0 (by decide) k_Mo_65 rfl rfl d_Mo_language_16 ?_
    refine lv_iconst (v := 2) hx hb d_Mo_language_19 (by decide) ?_
    refine wd_iast S hK hW 0 c2 rfl (vp_in_nI (by omega) (by omega)) d_Mo_language_20 (fun H locs w_1 ew_1 hW => ?_)
    have hmk := mk_up hmk c2 ew_1 (by rw [hT.2 2 (by omega)]; omega)
    have ht0 := wd_keep ew_1 (wd_ne ht0 c2 (by simp)) ht0
    have c0 := wd_keep ew_1 (tg_ne (tg := tg) (by rw [hT.2 0 (by omega), hT.2 2 (by omega)]; omega)) c0
    have c1 := wd_keep ew_1 (tg_ne (tg := tg) (by rw [hT.2 1 (by omega), hT.2 2 (by omega)]; omega)) c1
    have c3 := wd_keep ew_1 (tg_ne (tg := tg) (by rw [hT.2 3 (by omega), hT.2 2 (by omega)]; omega)) c3
    have c4 := wd_keep ew_1 (tg_ne (tg := tg) (by rw [hT.2 4 (by omega), hT.2 2 (by omega)]; omega)) c4
    have c5 := wd_keep ew_1 (tg_ne (tg := tg) (by rw [hT.2 5 (by omega), hT.2 2 (by omega)]; omega)) c5
    have c6 := wd_keep ew_1 (tg_ne (tg := tg) (by rw [hT.2 6 (by omega), hT.2 2 (by omega)]; omega)) c6
    have c7 := wd_keep ew_1 (tg_ne (tg := tg) (by rw [hT.2 7 (by omega), hT.2 2 (by omega)]; omega)) c7
    have c8 := wd_keep ew_1 (tg_ne (tg := tg) (by rw [hT.2 8 (by omega), hT.2 2 (by omega)]; omega)) c8
    have c9 := wd_keep ew_1 (tg_ne (tg := tg) (by rw [hT.2 9 (by omega), hT.2 2 (by omega)]; omega)) c9
    have c10 := wd_keep ew_1 (tg_ne (tg := tg) (by rw [hT.2 10 (by omega), hT.2 2 (by omega)]; omega)) c10
    have c11 := wd_keep ew_1 (tg_ne (tg := tg) (by rw [hT.2 11 (by omega), hT.2 2 (by omega)]; omega)) c11
    have c12 := wd_keep ew_1 (tg_ne (tg := tg) (by rw [hT.2 12 (by omega), hT.2 2 (by omega)]; omega)) c12
    have c13 := wd_keep ew_1 (tg_ne (tg := tg) (by rw [hT.2 13 (by omega), hT.2 2 (by omega)]; omega)) c13
    have c14 := wd_keep ew_1 (tg_ne (tg := tg) (by rw [hT.2 14 (by omega), hT.2 2 (by omega)]; omega)) c14
    have c15 := wd_keep ew_1 (tg_ne (tg := tg) (by rw [hT.2 15 (by omega), hT.2 2 (by omega)]; omega)) c15
    have c16 := wd_keep ew_1 (tg_ne (tg := tg) (by rw [hT.2 16 (by omega), hT.2 2 (by omega)]; omega)) c16
    have c17 := wd_keep ew_1 (tg_ne (tg := tg) (by rw [hT.2 17 (by omega), hT.2 2 (by omega)]; omega)) c17
    have c2 : w_1 (C 2) = some (.inl (G.2.1 0, 4, .inl (upd (M 2) ((nI Ls.length) : Int32).toNatClampNeg 2))) := wd_here ew_1
    rw [nI_clamp (by omega)] at c2
    refine lv_aload_n hx hb d_Mo_language_21 rfl (lv_at hl 0 rfl) ?_
    refine wd_get S i_Mo hK hW ht0 rfl 4 (by decide) k_Mo_20 rfl rfl d_Mo_language_22 ?_
    refine lv_aload_n hx hb d_Mo_language_25 rfl (lv_at hl 0 rfl) ?_
    refine wd_get S i_Mo hK hW ht0 rfl 0 (by decide) k_Mo_65 rfl rfl d_Mo_language_26 ?_
    refine lv_iconst (v := 3) hx hb d_Mo_language_29 (by decide) ?_
    refine wd_iast S hK hW 0 c3 rfl (vp_in_nI (by omega) (by omega)) d_Mo_language_30 (fun H locs w_2 ew_2 hW => ?_)
    have hmk := mk_up hmk c3 ew_2 (by rw [hT.2 3 (by omega)]; omega)
    have ht0 := wd_keep ew_2 (wd_ne ht0 c3 (by simp)) ht0
    have c0 := wd_keep ew_2 (tg_ne (tg := tg) (by rw [hT.2 0 (by omega), hT.2 3 (by omega)]; omega)) c0
    have c1 := wd_keep ew_2 (tg_ne (tg := tg) (by rw [hT.2 1 (by omega), hT.2 3 (by omega)]; omega)) c1
    have c2 := wd_keep ew_2 (tg_ne (tg := tg) (by rw [hT.2 2 (by omega), hT.2 3 (by omega)]; omega)) c2
    have c4 := wd_keep ew_2 (tg_ne (tg := tg) (by rw [hT.2 4 (by omega), hT.2 3 (by omega)]; omega)) c4
    have c5 := wd_keep ew_2 (tg_ne (tg := tg) (by rw [hT.2 5 (by omega), hT.2 3 (by omega)]; omega)) c5
    have c6 := wd_keep ew_2 (tg_ne (tg := tg) (by rw [hT.2 6 (by omega), hT.2 3 (by omega)]; omega)) c6
    have c7 := wd_keep ew_2 (tg_ne (tg := tg) (by rw [hT.2 7 (by omega), hT.2 3 (by omega)]; omega)) c7
    have c8 := wd_keep ew_2 (tg_ne (tg := tg) (by rw [hT.2 8 (by omega), hT.2 3 (by omega)]; omega)) c8
    have c9 := wd_keep ew_2 (tg_ne (tg := tg) (by rw [hT.2 9 (by omega), hT.2 3 (by omega)]; omega)) c9
    have c10 := wd_keep ew_2 (tg_ne (tg := tg) (by rw [hT.2 10 (by omega), hT.2 3 (by omega)]; omega)) c10
    have c11 := wd_keep ew_2 (tg_ne (tg := tg) (by rw [hT.2 11 (by omega), hT.2 3 (by omega)]; omega)) c11
    have c12 := wd_keep ew_2 (tg_ne (tg := tg) (by rw [hT.2 12 (by omega), hT.2 3 (by omega)]; omega)) c12
    have c13 := wd_keep ew_2 (tg_ne (tg := tg) (by rw [hT.2 13 (by omega), hT.2 3 (by omega)]; omega)) c13
    have c14 := wd_keep ew_2 (tg_ne (tg := tg) (by rw [hT.2 14 (by omega), hT.2 3 (by omega)]; omega)) c14
    have c15 := wd_keep ew_2 (tg_ne (tg := tg) (by rw [hT.2 15 (by omega), hT.2 3 (by omega)]; omega)) c15
    have c16 := wd_keep ew_2 (tg_ne (tg := tg) (by rw [hT.2 16 (by omega), hT.2 3 (by omega)]; omega)) c16
    have c17 := wd_keep ew_2 (tg_ne (tg := tg) (by rw [hT.2 17 (by omega), hT.2 3 (by omega)]; omega)) c17
    have c3 : w_2 (C 3) = some (.inl (G.2.1 0, 4, .inl (upd (M 3) ((nI Ls.length) : Int32).toNatClampNeg 3))) := wd_here ew_2
    rw [nI_clamp (by omega)] at c3
    refine lv_aload_n hx hb d_Mo_language_31 rfl (lv_at hl 0 rfl) ?_
    refine lv_dup hx hb d_Mo_language_32 rfl ?_
    refine wd_get S i_Mo hK hW ht0 rfl 0 (by decide) k_Mo_65 rfl rfl d_Mo_language_33 ?_
    refine lv_iconst (v := 1) hx hb d_Mo_language_36 (by decide) ?_
    refine lv_iadd hx hb d_Mo_language_37 ?_
    refine lv_topi (fun nl enl => ?_)
    rw [nI_1] at enl
    refine wd_put S i_Mo t_Mo t_Mo_ok n_Mo hK hW ht0 rfl 0 (by decide) k_Mo_65 rfl rfl rfl rfl (Nat.le_of_ble_eq_true rfl) d_Mo_language_38 (fun H locs w_3 ew_3 hW => ?_)
    have hmk := mk_up hmk ht0 ew_3 (by rw [hT.1]; omega)
    have c0 := wd_keep ew_3 (wd_ne c0 ht0 (by simp)) c0
    have c1 := wd_keep ew_3 (wd_ne c1 ht0 (by simp)) c1
    have c2 := wd_keep ew_3 (wd_ne c2 ht0 (by simp)) c2
    have c3 := wd_keep ew_3 (wd_ne c3 ht0 (by simp)) c3
    have c4 := wd_keep ew_3 (wd_ne c4 ht0 (by simp)) c4
    have c5 := wd_keep ew_3 (wd_ne c5 ht0 (by simp)) c5
    have c6 := wd_keep ew_3 (wd_ne c6 ht0 (by simp)) c6
    have c7 := wd_keep ew_3 (wd_ne c7 ht0 (by simp)) c7
    have c8 := wd_keep ew_3 (wd_ne c8 ht0 (by simp)) c8
    have c9 := wd_keep ew_3 (wd_ne c9 ht0 (by simp)) c9
    have c10 := wd_keep ew_3 (wd_ne c10 ht0 (by simp)) c10
    have c11 := wd_keep ew_3 (wd_ne c11 ht0 (by simp)) c11
    have c12 := wd_keep ew_3 (wd_ne c12 ht0 (by simp)) c12
    have c13 := wd_keep ew_3 (wd_ne c13 ht0 (by simp)) c13
    have c14 := wd_keep ew_3 (wd_ne c14 ht0 (by simp)) c14
    have c15 := wd_keep ew_3 (wd_ne c15 ht0 (by simp)) c15
    have c16 := wd_keep ew_3 (wd_ne c16 ht0 (by simp)) c16
    have c17 := wd_keep ew_3 (wd_ne c17 ht0 (by simp)) c17
    have ht0 : w_3 t = some (.inr (5, [.int nl, .ref (C 0), .ref (C 1), .ref (C 2), .ref (C 3), .ref (C 4), .int (nI ml.length), .ref (C 5), .ref (C 6), .int (nI Ps.length), .int (nI (hy_tot Ps)), .ref (C 7), .ref (C 8), .ref (C 9), .ref (C 10), .int (nI Ts.length), .ref (C 11), .ref (C 12), .ref (C 13), .ref (C 14), .int (nI wd.length), .ref (C 15), .ref (C 16), .int (nI pl.length), .ref (C 17)])) := wd_here ew_3
    refine lv_aload_n hx hb d_Mo_language_41 rfl (lv_at hl 0 rfl) ?_
    refine wd_get S i_Mo hK hW ht0 rfl 0 (by decide) k_Mo_65 rfl rfl d_Mo_language_42 ?_
    refine lv_iconst (v := 1) hx hb d_Mo_language_45 (by decide) ?_
    refine lv_isub hx hb d_Mo_language_46 ?_
    rw [enl] at ht0
    rw [enl, nI_pred]
    have hcF : mo_c G w_3 t C (fun k9 => if k9 = 3 then upd (M 3) Ls.length 3 else if k9 = 2 then upd (M 2) Ls.length 2 else M k9) (nI (Ls ++ [(((fun _ => 0), (fun _ => 0), 2, 3, 0) : hy_L)]).length) (nI ml.length) (nI Ps.length) (nI (hy_tot Ps)) (nI Ts.length) (nI wd.length) (nI pl.length) := by rw [List.length_append]; exact ⟨ht0, c0, c1, c2, c3, c4, c5, c6, c7, c8, c9, c10, c11, c12, c13, c14, c15, c16, c17⟩
    exact ct_iret S hr rfl hlocks hW (⟨(Ls ++ [((fun _ => 0), (fun _ => 0), 2, 3, 0)], Ps, Ts, ml, md, wd, pl), Or.inr ⟨hlt, rfl, rfl⟩, ⟨C, (fun k9 => if k9 = 3 then upd (M 3) Ls.length 3 else if k9 = 2 then upd (M 2) Ls.length 2 else M k9), hcF, hT, mo_l_add hl0 hlt rfl rfl rfl rfl rfl, (mo_pc hp0 (fun k9 h1 h2 => by show (if k9 = 3 then upd (M 3) Ls.length 3 else if k9 = 2 then upd (M 2) Ls.length 2 else M k9) = M k9; rw [if_neg (by omega), if_neg (by omega)])), (mo_tc hq0 (fun k9 h1 h2 => by show (if k9 = 3 then upd (M 3) Ls.length 3 else if k9 = 2 then upd (M 2) Ls.length 2 else M k9) = M k9; rw [if_neg (by omega), if_neg (by omega)])), hml, hmd, hwd, hpl⟩, hmk⟩) (Nat.le_of_ble_eq_true rfl) (Nat.le_of_ble_eq_true rfl) d_Mo_language_47
  · refine lv_bipush (v := -2) hx hb d_Mo_language_8 (by decide) ?_
    exact ct_iret S hr rfl hlocks hW (⟨_, Or.inl ⟨fun q => absurd ((nI_eq (a := Ls.length) (b := 4) (by omega) (by omega)).mp h5) (by have q : Ls.length < 4 := q; omega), rfl, rfl⟩, h, mk_rf⟩) (Nat.le_of_ble_eq_true rfl) (Nat.le_of_ble_eq_true rfl) d_Mo_language_10

set_option maxHeartbeats 4000000 in
set_option maxRecDepth 100000 in
/-- the reference: code -/
theorem c_Mo_code (l : Launch) (G : ev_G) (w : wd_M) (sz : Nat) (tg : Nat → Nat) (t : Nat) (Ls : List hy_L) (Ps : List hy_P) (Ts : List hy_T) (ml md wd : List Int32) (pl : List Nat) (x g c k : Int32) (h : mo_ G w tg t Ls Ps Ts ml md wd pl) (hwf : hy_wf Ls Ps Ts ml md wd pl) (hk01 : k = 0 ∨ k = 1) : ct_i l y_Mo_code b_Mo_code 5 (some FieldType.int) (rm_ 1 0 0) G w sz [.ref t, .int x, .int g, .int c, .int k] (mq_ G w tg t (sp_code x g c k (Ls, Ps, Ts, ml, md, wd, pl))) := by
  refine ct_enter (by decide +kernel) (Nat.le_of_ble_eq_true rfl) ?_
  intro p_ e_ s m below meth c_ hsz S hr hlocks hname hE hW ls hl
  have S : CallFix p_ m c_ b_Mo_code 5 s _ lw_good "HyphenRowsModel" := S
  have hx := S.1
  have hb := S.2.1
  have hK := hE.1
  have hl : lv_has ls 5 [(0, .ref t), (1, .int x), (2, .int g), (3, .int c), (4, .int k)] := hl
  obtain ⟨C, M, hc, hT, hl0, hp0, hq0, hml, hmd, hwd, hpl⟩ := id h
  obtain ⟨ht0, c0, c1, c2, c3, c4, c5, c6, c7, c8, c9, c10, c11, c12, c13, c14, c15, c16, c17⟩ := id hc
  obtain ⟨wL, wP, wT, wm, wml, wwd, wpl, wtot, wmx, wdx, wws, wplx, wlg, wps, wts⟩ := id hwf
  have hmk : mk_ w w tg := mk_rf
  refine lv_aload_n hx hb d_Mo_code_0 rfl (lv_at hl 0 rfl) ?_
  refine lv_iload_n hx hb d_Mo_code_1 rfl (lv_at hl 1 rfl) ?_
  refine ct_goi hW (ct_runV (As := [.int x]) (rest := []) (q := (R_Mo, F_Mo, 25)) S hE hW (c_Mo_isLanguage l G _ _ t C M (nI ml.length) (nI Ps.length) (nI (hy_tot Ps)) (nI Ts.length) (nI wd.length) (nI pl.length) Ls.length x hc) ht0 rfl kc_Mo_isLanguage kz_Mo k_Mo_69 ki_Mo_isLanguage kv_Mo_isLanguage kd_Mo_isLanguage ⟨Nat.le_of_ble_eq_true rfl, Nat.le_of_ble_eq_true rfl⟩ hl.1 (Nat.le_of_ble_eq_true rfl) d_Mo_code_2 ⟨Nat.le_of_ble_eq_true rfl, Nat.le_of_ble_eq_true rfl⟩) (fun v_3 u_1 H locs hp_2 hW => ?_)
  obtain ⟨hv, hu_4⟩ := hp_2
  rw [hu_4] at hW
  refine lv_if_eq (tgt := 29) hx hb d_Mo_code_5 (by decide) (fun hb0 => ?_) (fun hb0 => ?_)
  · refine lv_iconst (v := -1) hx hb d_Mo_code_29 (by decide) ?_
    exact ct_iret S hr rfl hlocks hW (⟨_, Or.inl ⟨fun q => bl_f hv hb0 q.1, rfl, rfl⟩, h, mk_rf⟩) (Nat.le_of_ble_eq_true rfl) (Nat.le_of_ble_eq_true rfl) d_Mo_code_30
  · refine lv_iload_n hx hb d_Mo_code_8 rfl (lv_at hl 2 rfl) ?_
    refine lv_iconst (v := 0) hx hb d_Mo_code_9 (by decide) ?_
    refine lv_sipush (v := 255) hx hb d_Mo_code_10 (by decide) ?_
    refine ct_goi hW (ct_runS (As := [.int g, .int 0, .int 255]) (rest := []) S hE hW (c_Mo_in l G _ _ g 0 255) kc_Mo_in kz_Mo k_Mo_73 ks_Mo_in kd_Mo_in ⟨Nat.le_of_ble_eq_true rfl, Nat.le_of_ble_eq_true rfl⟩ hl.1 (Nat.le_of_ble_eq_true rfl) d_Mo_code_13 ⟨Nat.le_of_ble_eq_true rfl, Nat.le_of_ble_eq_true rfl⟩) (fun v_7 u_5 H locs hp_6 hW => ?_)
    obtain ⟨hv1, hu_8⟩ := hp_6
    rw [hu_8] at hW
    refine lv_if_eq (tgt := 29) hx hb d_Mo_code_16 (by decide) (fun hb1 => ?_) (fun hb1 => ?_)
    · refine lv_iconst (v := -1) hx hb d_Mo_code_29 (by decide) ?_
      exact ct_iret S hr rfl hlocks hW (⟨_, Or.inl ⟨fun q => bl_f hv1 hb1 q.2.1, rfl, rfl⟩, h, mk_rf⟩) (Nat.le_of_ble_eq_true rfl) (Nat.le_of_ble_eq_true rfl) d_Mo_code_30
    · refine lv_iload_n hx hb d_Mo_code_19 rfl (lv_at hl 3 rfl) ?_
      refine lv_iconst (v := 0) hx hb d_Mo_code_20 (by decide) ?_
      refine lv_bipush (v := 30) hx hb d_Mo_code_21 (by decide) ?_
      refine ct_goi hW (ct_runS (As := [.int c, .int 0, .int 30]) (rest := []) S hE hW (c_Mo_in l G _ _ c 0 30) kc_Mo_in kz_Mo k_Mo_73 ks_Mo_in kd_Mo_in ⟨Nat.le_of_ble_eq_true rfl, Nat.le_of_ble_eq_true rfl⟩ hl.1 (Nat.le_of_ble_eq_true rfl) d_Mo_code_23 ⟨Nat.le_of_ble_eq_true rfl, Nat.le_of_ble_eq_true rfl⟩) (fun v_11 u_9 H locs hp_10 hW => ?_)
      obtain ⟨hv2, hu_12⟩ := hp_10
      rw [hu_12] at hW
      refine lv_if_ne (tgt := 31) hx hb d_Mo_code_26 (by decide) (fun hb2 => ?_) (fun hb2 => ?_)
      · have hnm0 := bl_t hv hb0
        have hok : nm_ x Ls.length ∧ ok_s g ∧ ok_l c := ⟨hnm0, bl_t hv1 hb1, bl_t hv2 hb2⟩
        obtain ⟨gn, hgn, rfl⟩ := ok_nat (n := 255) hok.2.1 (by decide)
        obtain ⟨i, hil, rfl⟩ := nm_of hnm0 (by omega)
        have hlgi : Ls[i]? = some Ls[i] := List.getElem?_eq_getElem hil
        generalize Ls[i] = lg at hlgi
        obtain ⟨m01, m2, m3, m4⟩ := hl0.1 i lg hlgi
        have hlgm := wlg lg (List.mem_of_getElem? hlgi)
        refine lv_aload_n hx hb d_Mo_code_31 rfl (lv_at hl 0 rfl) ?_
        refine wd_get S i_Mo hK hW ht0 rfl 1 (by decide) k_Mo_7 rfl rfl d_Mo_code_32 ?_
        refine lv_sipush (v := 256) hx hb d_Mo_code_35 (by decide) ?_
        refine lv_iload_n hx hb d_Mo_code_38 rfl (lv_at hl 1 rfl) ?_
        refine lv_imul hx hb d_Mo_code_39 ?_
        refine lv_iload_n hx hb d_Mo_code_40 rfl (lv_at hl 2 rfl) ?_
        refine lv_iadd hx hb d_Mo_code_41 ?_
        refine lv_iload_n hx hb d_Mo_code_42 rfl (lv_at hl 3 rfl) ?_
        rw [ix_256]
        refine wd_iast S hK hW 0 c0 rfl (vp_in_nI (by omega) (by omega)) d_Mo_code_43 (fun H locs w_13 ew_13 hW => ?_)
        have hmk := mk_up hmk c0 ew_13 (by rw [hT.2 0 (by omega)]; omega)
        have ht0 := wd_keep ew_13 (wd_ne ht0 c0 (by simp)) ht0
        have c1 := wd_keep ew_13 (tg_ne (tg := tg) (by rw [hT.2 1 (by omega), hT.2 0 (by omega)]; omega)) c1
        have c2 := wd_keep ew_13 (tg_ne (tg := tg) (by rw [hT.2 2 (by omega), hT.2 0 (by omega)]; omega)) c2
        have c3 := wd_keep ew_13 (tg_ne (tg := tg) (by rw [hT.2 3 (by omega), hT.2 0 (by omega)]; omega)) c3
        have c4 := wd_keep ew_13 (tg_ne (tg := tg) (by rw [hT.2 4 (by omega), hT.2 0 (by omega)]; omega)) c4
        have c5 := wd_keep ew_13 (tg_ne (tg := tg) (by rw [hT.2 5 (by omega), hT.2 0 (by omega)]; omega)) c5
        have c6 := wd_keep ew_13 (tg_ne (tg := tg) (by rw [hT.2 6 (by omega), hT.2 0 (by omega)]; omega)) c6
        have c7 := wd_keep ew_13 (tg_ne (tg := tg) (by rw [hT.2 7 (by omega), hT.2 0 (by omega)]; omega)) c7
        have c8 := wd_keep ew_13 (tg_ne (tg := tg) (by rw [hT.2 8 (by omega), hT.2 0 (by omega)]; omega)) c8
        have c9 := wd_keep ew_13 (tg_ne (tg := tg) (by rw [hT.2 9 (by omega), hT.2 0 (by omega)]; omega)) c9
        have c10 := wd_keep ew_13 (tg_ne (tg := tg) (by rw [hT.2 10 (by omega), hT.2 0 (by omega)]; omega)) c10
        have c11 := wd_keep ew_13 (tg_ne (tg := tg) (by rw [hT.2 11 (by omega), hT.2 0 (by omega)]; omega)) c11
        have c12 := wd_keep ew_13 (tg_ne (tg := tg) (by rw [hT.2 12 (by omega), hT.2 0 (by omega)]; omega)) c12
        have c13 := wd_keep ew_13 (tg_ne (tg := tg) (by rw [hT.2 13 (by omega), hT.2 0 (by omega)]; omega)) c13
        have c14 := wd_keep ew_13 (tg_ne (tg := tg) (by rw [hT.2 14 (by omega), hT.2 0 (by omega)]; omega)) c14
        have c15 := wd_keep ew_13 (tg_ne (tg := tg) (by rw [hT.2 15 (by omega), hT.2 0 (by omega)]; omega)) c15
        have c16 := wd_keep ew_13 (tg_ne (tg := tg) (by rw [hT.2 16 (by omega), hT.2 0 (by omega)]; omega)) c16
        have c17 := wd_keep ew_13 (tg_ne (tg := tg) (by rw [hT.2 17 (by omega), hT.2 0 (by omega)]; omega)) c17
        have c0 : w_13 (C 0) = some (.inl (G.2.1 0, 1024, .inl (upd (M 0) ((nI (256 * i + gn)) : Int32).toNatClampNeg c))) := wd_here ew_13
        rw [nI_clamp (by omega)] at c0
        refine lv_aload_n hx hb d_Mo_code_44 rfl (lv_at hl 0 rfl) ?_
        refine wd_get S i_Mo hK hW ht0 rfl 2 (by decide) k_Mo_13 rfl rfl d_Mo_code_45 ?_
        refine lv_sipush (v := 256) hx hb d_Mo_code_48 (by decide) ?_
        refine lv_iload_n hx hb d_Mo_code_51 rfl (lv_at hl 1 rfl) ?_
        refine lv_imul hx hb d_Mo_code_52 ?_
        refine lv_iload_n hx hb d_Mo_code_53 rfl (lv_at hl 2 rfl) ?_
        refine lv_iadd hx hb d_Mo_code_54 ?_
        refine lv_iload hx hb d_Mo_code_55 (lv_at hl 4 rfl) ?_
        rw [ix_256]
        refine wd_zast S hK hW 1 c1 rfl (vp_in_nI (by omega) (by omega)) d_Mo_code_57 (fun H locs w_14 ew_14 hW => ?_)
        have hmk := mk_up hmk c1 ew_14 (by rw [hT.2 1 (by omega)]; omega)
        have ht0 := wd_keep ew_14 (wd_ne ht0 c1 (by simp)) ht0
        have c0 := wd_keep ew_14 (tg_ne (tg := tg) (by rw [hT.2 0 (by omega), hT.2 1 (by omega)]; omega)) c0
        have c2 := wd_keep ew_14 (tg_ne (tg := tg) (by rw [hT.2 2 (by omega), hT.2 1 (by omega)]; omega)) c2
        have c3 := wd_keep ew_14 (tg_ne (tg := tg) (by rw [hT.2 3 (by omega), hT.2 1 (by omega)]; omega)) c3
        have c4 := wd_keep ew_14 (tg_ne (tg := tg) (by rw [hT.2 4 (by omega), hT.2 1 (by omega)]; omega)) c4
        have c5 := wd_keep ew_14 (tg_ne (tg := tg) (by rw [hT.2 5 (by omega), hT.2 1 (by omega)]; omega)) c5
        have c6 := wd_keep ew_14 (tg_ne (tg := tg) (by rw [hT.2 6 (by omega), hT.2 1 (by omega)]; omega)) c6
        have c7 := wd_keep ew_14 (tg_ne (tg := tg) (by rw [hT.2 7 (by omega), hT.2 1 (by omega)]; omega)) c7
        have c8 := wd_keep ew_14 (tg_ne (tg := tg) (by rw [hT.2 8 (by omega), hT.2 1 (by omega)]; omega)) c8
        have c9 := wd_keep ew_14 (tg_ne (tg := tg) (by rw [hT.2 9 (by omega), hT.2 1 (by omega)]; omega)) c9
        have c10 := wd_keep ew_14 (tg_ne (tg := tg) (by rw [hT.2 10 (by omega), hT.2 1 (by omega)]; omega)) c10
        have c11 := wd_keep ew_14 (tg_ne (tg := tg) (by rw [hT.2 11 (by omega), hT.2 1 (by omega)]; omega)) c11
        have c12 := wd_keep ew_14 (tg_ne (tg := tg) (by rw [hT.2 12 (by omega), hT.2 1 (by omega)]; omega)) c12
        have c13 := wd_keep ew_14 (tg_ne (tg := tg) (by rw [hT.2 13 (by omega), hT.2 1 (by omega)]; omega)) c13
        have c14 := wd_keep ew_14 (tg_ne (tg := tg) (by rw [hT.2 14 (by omega), hT.2 1 (by omega)]; omega)) c14
        have c15 := wd_keep ew_14 (tg_ne (tg := tg) (by rw [hT.2 15 (by omega), hT.2 1 (by omega)]; omega)) c15
        have c16 := wd_keep ew_14 (tg_ne (tg := tg) (by rw [hT.2 16 (by omega), hT.2 1 (by omega)]; omega)) c16
        have c17 := wd_keep ew_14 (tg_ne (tg := tg) (by rw [hT.2 17 (by omega), hT.2 1 (by omega)]; omega)) c17
        have c1 : w_14 (C 1) = some (.inl (G.2.1 1, 1024, .inl (upd (M 1) ((nI (256 * i + gn)) : Int32).toNatClampNeg (vp_nar .boolean k)))) := wd_here ew_14
        rw [nI_clamp (by omega), vpn01 hk01] at c1
        refine lv_iconst (v := 1) hx hb d_Mo_code_58 (by decide) ?_
        have hcF : mo_c G w_14 t C (fun k9 => if k9 = 1 then upd (M 1) (256 * i + gn) k else if k9 = 0 then upd (M 0) (256 * i + gn) c else M k9) (nI (Ls.set i (upd lg.1 gn c, upd lg.2.1 gn k, lg.2.2)).length) (nI ml.length) (nI Ps.length) (nI (hy_tot Ps)) (nI Ts.length) (nI wd.length) (nI pl.length) := by rw [List.length_set]; exact ⟨ht0, c0, c1, c2, c3, c4, c5, c6, c7, c8, c9, c10, c11, c12, c13, c14, c15, c16, c17⟩
        exact ct_iret S hr rfl hlocks hW (⟨(Ls.set i (upd lg.1 gn c, upd lg.2.1 gn k, lg.2.2), Ps, Ts, ml, md, wd, pl), Or.inr ⟨hok, rfl, i, gn, lg, rfl, rfl, by omega, hlgi, rfl⟩, ⟨C, (fun k9 => if k9 = 1 then upd (M 1) (256 * i + gn) k else if k9 = 0 then upd (M 0) (256 * i + gn) c else M k9), hcF, hT, (mo_l_set hl0 hil (fun j hj h4 => ⟨fun s hs => ⟨pk_un (by omega), pk_un (by omega)⟩, rfl, rfl, rfl⟩) wL ⟨fun s hs => ⟨mo_c_set (fun s hs => (m01 s hs).1) s hs, mo_c_set (fun s hs => (m01 s hs).2) s hs⟩, m2, m3, m4⟩), (mo_pc hp0 (fun k9 h1 h2 => by show (if k9 = 1 then upd (M 1) (256 * i + gn) k else if k9 = 0 then upd (M 0) (256 * i + gn) c else M k9) = M k9; rw [if_neg (by omega), if_neg (by omega)])), (mo_tc hq0 (fun k9 h1 h2 => by show (if k9 = 1 then upd (M 1) (256 * i + gn) k else if k9 = 0 then upd (M 0) (256 * i + gn) c else M k9) = M k9; rw [if_neg (by omega), if_neg (by omega)])), hml, hmd, hwd, hpl⟩, hmk⟩) (Nat.le_of_ble_eq_true rfl) (Nat.le_of_ble_eq_true rfl) d_Mo_code_59
      · refine lv_iconst (v := -1) hx hb d_Mo_code_29 (by decide) ?_
        exact ct_iret S hr rfl hlocks hW (⟨_, Or.inl ⟨fun q => bl_f hv2 hb2 q.2.2, rfl, rfl⟩, h, mk_rf⟩) (Nat.le_of_ble_eq_true rfl) (Nat.le_of_ble_eq_true rfl) d_Mo_code_30

set_option maxHeartbeats 4000000 in
set_option maxRecDepth 100000 in
/-- the reference: ends -/
theorem c_Mo_ends (l : Launch) (G : ev_G) (w : wd_M) (sz : Nat) (tg : Nat → Nat) (t : Nat) (Ls : List hy_L) (Ps : List hy_P) (Ts : List hy_T) (ml md wd : List Int32) (pl : List Nat) (x a0 b0 k : Int32) (h : mo_ G w tg t Ls Ps Ts ml md wd pl) (hwf : hy_wf Ls Ps Ts ml md wd pl) (hk01 : k = 0 ∨ k = 1) : ct_i l y_Mo_ends b_Mo_ends 5 (some FieldType.int) (rm_ 1 0 0) G w sz [.ref t, .int x, .int a0, .int b0, .int k] (mq_ G w tg t (sp_ends x a0 b0 k (Ls, Ps, Ts, ml, md, wd, pl))) := by
  refine ct_enter (by decide +kernel) (Nat.le_of_ble_eq_true rfl) ?_
  intro p_ e_ s m below meth c_ hsz S hr hlocks hname hE hW ls hl
  have S : CallFix p_ m c_ b_Mo_ends 5 s _ lw_good "HyphenRowsModel" := S
  have hx := S.1
  have hb := S.2.1
  have hK := hE.1
  have hl : lv_has ls 5 [(0, .ref t), (1, .int x), (2, .int a0), (3, .int b0), (4, .int k)] := hl
  obtain ⟨C, M, hc, hT, hl0, hp0, hq0, hml, hmd, hwd, hpl⟩ := id h
  obtain ⟨ht0, c0, c1, c2, c3, c4, c5, c6, c7, c8, c9, c10, c11, c12, c13, c14, c15, c16, c17⟩ := id hc
  obtain ⟨wL, wP, wT, wm, wml, wwd, wpl, wtot, wmx, wdx, wws, wplx, wlg, wps, wts⟩ := id hwf
  have hmk : mk_ w w tg := mk_rf
  refine lv_aload_n hx hb d_Mo_ends_0 rfl (lv_at hl 0 rfl) ?_
  refine lv_iload_n hx hb d_Mo_ends_1 rfl (lv_at hl 1 rfl) ?_
  refine ct_goi hW (ct_runV (As := [.int x]) (rest := []) (q := (R_Mo, F_Mo, 25)) S hE hW (c_Mo_isLanguage l G _ _ t C M (nI ml.length) (nI Ps.length) (nI (hy_tot Ps)) (nI Ts.length) (nI wd.length) (nI pl.length) Ls.length x hc) ht0 rfl kc_Mo_isLanguage kz_Mo k_Mo_69 ki_Mo_isLanguage kv_Mo_isLanguage kd_Mo_isLanguage ⟨Nat.le_of_ble_eq_true rfl, Nat.le_of_ble_eq_true rfl⟩ hl.1 (Nat.le_of_ble_eq_true rfl) d_Mo_ends_2 ⟨Nat.le_of_ble_eq_true rfl, Nat.le_of_ble_eq_true rfl⟩) (fun v_3 u_1 H locs hp_2 hW => ?_)
  obtain ⟨hv, hu_4⟩ := hp_2
  rw [hu_4] at hW
  refine lv_if_eq (tgt := 28) hx hb d_Mo_ends_5 (by decide) (fun hb0 => ?_) (fun hb0 => ?_)
  · refine lv_iconst (v := -1) hx hb d_Mo_ends_28 (by decide) ?_
    exact ct_iret S hr rfl hlocks hW (⟨_, Or.inl ⟨fun q => bl_f hv hb0 q.1, rfl, rfl⟩, h, mk_rf⟩) (Nat.le_of_ble_eq_true rfl) (Nat.le_of_ble_eq_true rfl) d_Mo_ends_29
  · refine lv_iload_n hx hb d_Mo_ends_8 rfl (lv_at hl 2 rfl) ?_
    refine lv_iconst (v := 0) hx hb d_Mo_ends_9 (by decide) ?_
    refine lv_bipush (v := 20) hx hb d_Mo_ends_10 (by decide) ?_
    refine ct_goi hW (ct_runS (As := [.int a0, .int 0, .int 20]) (rest := []) S hE hW (c_Mo_in l G _ _ a0 0 20) kc_Mo_in kz_Mo k_Mo_73 ks_Mo_in kd_Mo_in ⟨Nat.le_of_ble_eq_true rfl, Nat.le_of_ble_eq_true rfl⟩ hl.1 (Nat.le_of_ble_eq_true rfl) d_Mo_ends_12 ⟨Nat.le_of_ble_eq_true rfl, Nat.le_of_ble_eq_true rfl⟩) (fun v_7 u_5 H locs hp_6 hW => ?_)
    obtain ⟨hv1, hu_8⟩ := hp_6
    rw [hu_8] at hW
    refine lv_if_eq (tgt := 28) hx hb d_Mo_ends_15 (by decide) (fun hb1 => ?_) (fun hb1 => ?_)
    · refine lv_iconst (v := -1) hx hb d_Mo_ends_28 (by decide) ?_
      exact ct_iret S hr rfl hlocks hW (⟨_, Or.inl ⟨fun q => bl_f hv1 hb1 q.2.1, rfl, rfl⟩, h, mk_rf⟩) (Nat.le_of_ble_eq_true rfl) (Nat.le_of_ble_eq_true rfl) d_Mo_ends_29
    · refine lv_iload_n hx hb d_Mo_ends_18 rfl (lv_at hl 3 rfl) ?_
      refine lv_iconst (v := 0) hx hb d_Mo_ends_19 (by decide) ?_
      refine lv_bipush (v := 20) hx hb d_Mo_ends_20 (by decide) ?_
      refine ct_goi hW (ct_runS (As := [.int b0, .int 0, .int 20]) (rest := []) S hE hW (c_Mo_in l G _ _ b0 0 20) kc_Mo_in kz_Mo k_Mo_73 ks_Mo_in kd_Mo_in ⟨Nat.le_of_ble_eq_true rfl, Nat.le_of_ble_eq_true rfl⟩ hl.1 (Nat.le_of_ble_eq_true rfl) d_Mo_ends_22 ⟨Nat.le_of_ble_eq_true rfl, Nat.le_of_ble_eq_true rfl⟩) (fun v_11 u_9 H locs hp_10 hW => ?_)
      obtain ⟨hv2, hu_12⟩ := hp_10
      rw [hu_12] at hW
      refine lv_if_ne (tgt := 30) hx hb d_Mo_ends_25 (by decide) (fun hb2 => ?_) (fun hb2 => ?_)
      · have hnm0 := bl_t hv hb0
        have hok : nm_ x Ls.length ∧ ok_e a0 ∧ ok_e b0 := ⟨hnm0, bl_t hv1 hb1, bl_t hv2 hb2⟩
        obtain ⟨an, han, rfl⟩ := ok_nat (n := 20) hok.2.1 (by decide)
        obtain ⟨bn, hbn, rfl⟩ := ok_nat (n := 20) hok.2.2 (by decide)
        obtain ⟨i, hil, rfl⟩ := nm_of hnm0 (by omega)
        have hlgi : Ls[i]? = some Ls[i] := List.getElem?_eq_getElem hil
        generalize Ls[i] = lg at hlgi
        obtain ⟨m01, m2, m3, m4⟩ := hl0.1 i lg hlgi
        have hlgm := wlg lg (List.mem_of_getElem? hlgi)
        refine lv_aload_n hx hb d_Mo_ends_30 rfl (lv_at hl 0 rfl) ?_
        refine wd_get S i_Mo hK hW ht0 rfl 3 (by decide) k_Mo_17 rfl rfl d_Mo_ends_31 ?_
        refine lv_iload_n hx hb d_Mo_ends_34 rfl (lv_at hl 1 rfl) ?_
        refine lv_iload_n hx hb d_Mo_ends_35 rfl (lv_at hl 2 rfl) ?_
        refine wd_iast S hK hW 0 c2 rfl (vp_in_nI (by omega) (by omega)) d_Mo_ends_36 (fun H locs w_13 ew_13 hW => ?_)
        have hmk := mk_up hmk c2 ew_13 (by rw [hT.2 2 (by omega)]; omega)
        have ht0 := wd_keep ew_13 (wd_ne ht0 c2 (by simp)) ht0
        have c0 := wd_keep ew_13 (tg_ne (tg := tg) (by rw [hT.2 0 (by omega), hT.2 2 (by omega)]; omega)) c0
        have c1 := wd_keep ew_13 (tg_ne (tg := tg) (by rw [hT.2 1 (by omega), hT.2 2 (by omega)]; omega)) c1
        have c3 := wd_keep ew_13 (tg_ne (tg := tg) (by rw [hT.2 3 (by omega), hT.2 2 (by omega)]; omega)) c3
        have c4 := wd_keep ew_13 (tg_ne (tg := tg) (by rw [hT.2 4 (by omega), hT.2 2 (by omega)]; omega)) c4
        have c5 := wd_keep ew_13 (tg_ne (tg := tg) (by rw [hT.2 5 (by omega), hT.2 2 (by omega)]; omega)) c5
        have c6 := wd_keep ew_13 (tg_ne (tg := tg) (by rw [hT.2 6 (by omega), hT.2 2 (by omega)]; omega)) c6
        have c7 := wd_keep ew_13 (tg_ne (tg := tg) (by rw [hT.2 7 (by omega), hT.2 2 (by omega)]; omega)) c7
        have c8 := wd_keep ew_13 (tg_ne (tg := tg) (by rw [hT.2 8 (by omega), hT.2 2 (by omega)]; omega)) c8
        have c9 := wd_keep ew_13 (tg_ne (tg := tg) (by rw [hT.2 9 (by omega), hT.2 2 (by omega)]; omega)) c9
        have c10 := wd_keep ew_13 (tg_ne (tg := tg) (by rw [hT.2 10 (by omega), hT.2 2 (by omega)]; omega)) c10
        have c11 := wd_keep ew_13 (tg_ne (tg := tg) (by rw [hT.2 11 (by omega), hT.2 2 (by omega)]; omega)) c11
        have c12 := wd_keep ew_13 (tg_ne (tg := tg) (by rw [hT.2 12 (by omega), hT.2 2 (by omega)]; omega)) c12
        have c13 := wd_keep ew_13 (tg_ne (tg := tg) (by rw [hT.2 13 (by omega), hT.2 2 (by omega)]; omega)) c13
        have c14 := wd_keep ew_13 (tg_ne (tg := tg) (by rw [hT.2 14 (by omega), hT.2 2 (by omega)]; omega)) c14
        have c15 := wd_keep ew_13 (tg_ne (tg := tg) (by rw [hT.2 15 (by omega), hT.2 2 (by omega)]; omega)) c15
        have c16 := wd_keep ew_13 (tg_ne (tg := tg) (by rw [hT.2 16 (by omega), hT.2 2 (by omega)]; omega)) c16
        have c17 := wd_keep ew_13 (tg_ne (tg := tg) (by rw [hT.2 17 (by omega), hT.2 2 (by omega)]; omega)) c17
        have c2 : w_13 (C 2) = some (.inl (G.2.1 0, 4, .inl (upd (M 2) ((nI i) : Int32).toNatClampNeg (nI an)))) := wd_here ew_13
        rw [nI_clamp (by omega)] at c2
        refine lv_aload_n hx hb d_Mo_ends_37 rfl (lv_at hl 0 rfl) ?_
        refine wd_get S i_Mo hK hW ht0 rfl 4 (by decide) k_Mo_20 rfl rfl d_Mo_ends_38 ?_
        refine lv_iload_n hx hb d_Mo_ends_41 rfl (lv_at hl 1 rfl) ?_
        refine lv_iload_n hx hb d_Mo_ends_42 rfl (lv_at hl 3 rfl) ?_
        refine wd_iast S hK hW 0 c3 rfl (vp_in_nI (by omega) (by omega)) d_Mo_ends_43 (fun H locs w_14 ew_14 hW => ?_)
        have hmk := mk_up hmk c3 ew_14 (by rw [hT.2 3 (by omega)]; omega)
        have ht0 := wd_keep ew_14 (wd_ne ht0 c3 (by simp)) ht0
        have c0 := wd_keep ew_14 (tg_ne (tg := tg) (by rw [hT.2 0 (by omega), hT.2 3 (by omega)]; omega)) c0
        have c1 := wd_keep ew_14 (tg_ne (tg := tg) (by rw [hT.2 1 (by omega), hT.2 3 (by omega)]; omega)) c1
        have c2 := wd_keep ew_14 (tg_ne (tg := tg) (by rw [hT.2 2 (by omega), hT.2 3 (by omega)]; omega)) c2
        have c4 := wd_keep ew_14 (tg_ne (tg := tg) (by rw [hT.2 4 (by omega), hT.2 3 (by omega)]; omega)) c4
        have c5 := wd_keep ew_14 (tg_ne (tg := tg) (by rw [hT.2 5 (by omega), hT.2 3 (by omega)]; omega)) c5
        have c6 := wd_keep ew_14 (tg_ne (tg := tg) (by rw [hT.2 6 (by omega), hT.2 3 (by omega)]; omega)) c6
        have c7 := wd_keep ew_14 (tg_ne (tg := tg) (by rw [hT.2 7 (by omega), hT.2 3 (by omega)]; omega)) c7
        have c8 := wd_keep ew_14 (tg_ne (tg := tg) (by rw [hT.2 8 (by omega), hT.2 3 (by omega)]; omega)) c8
        have c9 := wd_keep ew_14 (tg_ne (tg := tg) (by rw [hT.2 9 (by omega), hT.2 3 (by omega)]; omega)) c9
        have c10 := wd_keep ew_14 (tg_ne (tg := tg) (by rw [hT.2 10 (by omega), hT.2 3 (by omega)]; omega)) c10
        have c11 := wd_keep ew_14 (tg_ne (tg := tg) (by rw [hT.2 11 (by omega), hT.2 3 (by omega)]; omega)) c11
        have c12 := wd_keep ew_14 (tg_ne (tg := tg) (by rw [hT.2 12 (by omega), hT.2 3 (by omega)]; omega)) c12
        have c13 := wd_keep ew_14 (tg_ne (tg := tg) (by rw [hT.2 13 (by omega), hT.2 3 (by omega)]; omega)) c13
        have c14 := wd_keep ew_14 (tg_ne (tg := tg) (by rw [hT.2 14 (by omega), hT.2 3 (by omega)]; omega)) c14
        have c15 := wd_keep ew_14 (tg_ne (tg := tg) (by rw [hT.2 15 (by omega), hT.2 3 (by omega)]; omega)) c15
        have c16 := wd_keep ew_14 (tg_ne (tg := tg) (by rw [hT.2 16 (by omega), hT.2 3 (by omega)]; omega)) c16
        have c17 := wd_keep ew_14 (tg_ne (tg := tg) (by rw [hT.2 17 (by omega), hT.2 3 (by omega)]; omega)) c17
        have c3 : w_14 (C 3) = some (.inl (G.2.1 0, 4, .inl (upd (M 3) ((nI i) : Int32).toNatClampNeg (nI bn)))) := wd_here ew_14
        rw [nI_clamp (by omega)] at c3
        refine lv_aload_n hx hb d_Mo_ends_44 rfl (lv_at hl 0 rfl) ?_
        refine wd_get S i_Mo hK hW ht0 rfl 5 (by decide) k_Mo_23 rfl rfl d_Mo_ends_45 ?_
        refine lv_iload_n hx hb d_Mo_ends_48 rfl (lv_at hl 1 rfl) ?_
        refine lv_iload hx hb d_Mo_ends_49 (lv_at hl 4 rfl) ?_
        refine wd_zast S hK hW 1 c4 rfl (vp_in_nI (by omega) (by omega)) d_Mo_ends_51 (fun H locs w_15 ew_15 hW => ?_)
        have hmk := mk_up hmk c4 ew_15 (by rw [hT.2 4 (by omega)]; omega)
        have ht0 := wd_keep ew_15 (wd_ne ht0 c4 (by simp)) ht0
        have c0 := wd_keep ew_15 (tg_ne (tg := tg) (by rw [hT.2 0 (by omega), hT.2 4 (by omega)]; omega)) c0
        have c1 := wd_keep ew_15 (tg_ne (tg := tg) (by rw [hT.2 1 (by omega), hT.2 4 (by omega)]; omega)) c1
        have c2 := wd_keep ew_15 (tg_ne (tg := tg) (by rw [hT.2 2 (by omega), hT.2 4 (by omega)]; omega)) c2
        have c3 := wd_keep ew_15 (tg_ne (tg := tg) (by rw [hT.2 3 (by omega), hT.2 4 (by omega)]; omega)) c3
        have c5 := wd_keep ew_15 (tg_ne (tg := tg) (by rw [hT.2 5 (by omega), hT.2 4 (by omega)]; omega)) c5
        have c6 := wd_keep ew_15 (tg_ne (tg := tg) (by rw [hT.2 6 (by omega), hT.2 4 (by omega)]; omega)) c6
        have c7 := wd_keep ew_15 (tg_ne (tg := tg) (by rw [hT.2 7 (by omega), hT.2 4 (by omega)]; omega)) c7
        have c8 := wd_keep ew_15 (tg_ne (tg := tg) (by rw [hT.2 8 (by omega), hT.2 4 (by omega)]; omega)) c8
        have c9 := wd_keep ew_15 (tg_ne (tg := tg) (by rw [hT.2 9 (by omega), hT.2 4 (by omega)]; omega)) c9
        have c10 := wd_keep ew_15 (tg_ne (tg := tg) (by rw [hT.2 10 (by omega), hT.2 4 (by omega)]; omega)) c10
        have c11 := wd_keep ew_15 (tg_ne (tg := tg) (by rw [hT.2 11 (by omega), hT.2 4 (by omega)]; omega)) c11
        have c12 := wd_keep ew_15 (tg_ne (tg := tg) (by rw [hT.2 12 (by omega), hT.2 4 (by omega)]; omega)) c12
        have c13 := wd_keep ew_15 (tg_ne (tg := tg) (by rw [hT.2 13 (by omega), hT.2 4 (by omega)]; omega)) c13
        have c14 := wd_keep ew_15 (tg_ne (tg := tg) (by rw [hT.2 14 (by omega), hT.2 4 (by omega)]; omega)) c14
        have c15 := wd_keep ew_15 (tg_ne (tg := tg) (by rw [hT.2 15 (by omega), hT.2 4 (by omega)]; omega)) c15
        have c16 := wd_keep ew_15 (tg_ne (tg := tg) (by rw [hT.2 16 (by omega), hT.2 4 (by omega)]; omega)) c16
        have c17 := wd_keep ew_15 (tg_ne (tg := tg) (by rw [hT.2 17 (by omega), hT.2 4 (by omega)]; omega)) c17
        have c4 : w_15 (C 4) = some (.inl (G.2.1 1, 4, .inl (upd (M 4) ((nI i) : Int32).toNatClampNeg (vp_nar .boolean k)))) := wd_here ew_15
        rw [nI_clamp (by omega), vpn01 hk01] at c4
        refine lv_iconst (v := 1) hx hb d_Mo_ends_52 (by decide) ?_
        have hcF : mo_c G w_15 t C (fun k9 => if k9 = 4 then upd (M 4) i k else if k9 = 3 then upd (M 3) i (nI bn) else if k9 = 2 then upd (M 2) i (nI an) else M k9) (nI (Ls.set i (lg.1, lg.2.1, an, bn, k)).length) (nI ml.length) (nI Ps.length) (nI (hy_tot Ps)) (nI Ts.length) (nI wd.length) (nI pl.length) := by rw [List.length_set]; exact ⟨ht0, c0, c1, c2, c3, c4, c5, c6, c7, c8, c9, c10, c11, c12, c13, c14, c15, c16, c17⟩
        exact ct_iret S hr rfl hlocks hW (⟨(Ls.set i (lg.1, lg.2.1, an, bn, k), Ps, Ts, ml, md, wd, pl), Or.inr ⟨hok, rfl, i, an, bn, lg, rfl, rfl, han, rfl, hbn, hlgi, rfl⟩, ⟨C, (fun k9 => if k9 = 4 then upd (M 4) i k else if k9 = 3 then upd (M 3) i (nI bn) else if k9 = 2 then upd (M 2) i (nI an) else M k9), hcF, hT, (mo_l_set hl0 hil (fun j hj h4 => ⟨fun s hs => ⟨rfl, rfl⟩, pk_un hj, pk_un hj, pk_un hj⟩) wL ⟨m01, pk_us, pk_us, pk_us⟩), (mo_pc hp0 (fun k9 h1 h2 => by show (if k9 = 4 then upd (M 4) i k else if k9 = 3 then upd (M 3) i (nI bn) else if k9 = 2 then upd (M 2) i (nI an) else M k9) = M k9; rw [if_neg (by omega), if_neg (by omega), if_neg (by omega)])), (mo_tc hq0 (fun k9 h1 h2 => by show (if k9 = 4 then upd (M 4) i k else if k9 = 3 then upd (M 3) i (nI bn) else if k9 = 2 then upd (M 2) i (nI an) else M k9) = M k9; rw [if_neg (by omega), if_neg (by omega), if_neg (by omega)])), hml, hmd, hwd, hpl⟩, hmk⟩) (Nat.le_of_ble_eq_true rfl) (Nat.le_of_ble_eq_true rfl) d_Mo_ends_53
      · refine lv_iconst (v := -1) hx hb d_Mo_ends_28 (by decide) ?_
        exact ct_iret S hr rfl hlocks hW (⟨_, Or.inl ⟨fun q => bl_f hv2 hb2 q.2.2, rfl, rfl⟩, h, mk_rf⟩) (Nat.le_of_ble_eq_true rfl) (Nat.le_of_ble_eq_true rfl) d_Mo_ends_29
end
section
/-! THE REFERENCE: isPattern, isSame, pattern. -/

theorem bl_ex1 {v : Int32} {i : Nat} {P : Nat → Prop} (h : bl_ v (∃ j, j < i ∧ P j)) (hv : ¬ v = 0) : bl_ 1 (∃ j, j < i + 1 ∧ P j) := by
  obtain ⟨j, hj, hp⟩ := bl_t h hv
  exact Or.inl ⟨rfl, j, by omega, hp⟩
theorem bl_ex2 {i : Nat} {P : Nat → Prop} (hp : P i) : bl_ 1 (∃ j, j < i + 1 ∧ P j) := Or.inl ⟨rfl, i, by omega, hp⟩
theorem bl_ex0 {v : Int32} {i : Nat} {P : Nat → Prop} (h : bl_ v (∃ j, j < i ∧ P j)) (hv : v = 0) (hn : ¬ P i) : bl_ 0 (∃ j, j < i + 1 ∧ P j) := by
  refine Or.inr ⟨rfl, fun q => ?_⟩
  obtain ⟨j, hj, hp⟩ := q
  by_cases hji : j = i
  · subst hji
    exact hn hp
  · exact bl_f h hv ⟨j, by omega, hp⟩
theorem bl_al1 {v : Int32} {i : Nat} {Q : Prop} {P : Nat → Prop} (h : bl_ v (Q ∧ ∀ j, j < i → P j)) (hv : ¬ v = 0) (hp : P i) : bl_ 1 (Q ∧ ∀ j, j < i + 1 → P j) := Or.inl ⟨rfl, (bl_t h hv).1, lt_s (bl_t h hv).2 hp⟩
theorem bl_al0 {i : Nat} {Q : Prop} {P : Nat → Prop} (hn : ¬ P i) : bl_ 0 (Q ∧ ∀ j, j < i + 1 → P j) := Or.inr ⟨rfl, fun q => hn (q.2 i (by omega))⟩
theorem bl_alx {v : Int32} {i n : Nat} {Q : Prop} {P : Nat → Prop} (h : bl_ v (Q ∧ ∀ j, j < i → P j)) (h0 : v = 0) (hi : i ≤ n) : bl_ v (Q ∧ ∀ j, j < n → P j) := Or.inr ⟨h0, fun q => bl_f h h0 ⟨q.1, fun j hj => q.2 j (by omega)⟩⟩
theorem bl_01 {v : Int32} {P : Prop} (h : bl_ v P) : narrow .boolean (.int v) = .int v := by rcases h with q | q <;> rw [q.1] <;> rfl

set_option maxHeartbeats 4000000 in
set_option maxRecDepth 100000 in
/-- the loop of isPattern -/
theorem lo_Mo_isPattern {p_ : Program} {l : Launch} {e_ : Env} {s : State} {m : MethodId} {args : Array Value} {below : List Frame} {meth : Method} {c_ : Code} {Q : State → Prop} {G : ev_G} {A : Nat → Prop} (S : CallFix p_ m c_ b_Mo_isPattern 4 s args lw_good "HyphenRowsModel") (hE : ev_K G A s s.heap) {w : wd_M} {H : Heap} {locs : List Loc} {t : Nat} {C : Nat → Nat} {M : Nat → Nat → Int32} {ln pn tn en sn qn : Int32} {ml : List Int32} (hW : wd_W G.1 ev_cl A w s.heap H locs) (hc : mo_c G w t C M ln (nI ml.length) pn tn en sn qn) (hml : li_ ml (M 5)) (wml : ml.length ≤ 12) (wmx : ∀ x ∈ ml, 0 ≤ x) (kk : ∀ sm mm : Int32, bl_ sm (∃ j, j < ml.length ∧ ¬ M 5 j = 0) → bl_ mm (∃ j, j < ml.length ∧ (M 5 j = 0 ∧ 0 < j ∧ j + 1 < ml.length)) → ∀ ls : Array Slot, lv_has ls 4 [(0, .ref t), (1, .int sm), (2, .int mm)] → W p_ l e_ (rm_ 0 0 0) s m args below meth c_ H locs 0 0 Q (F0 m 72 ls [])) :
    ∀ (fu : Nat) (i : Nat) (xi : Int32) (sm : Int32) (mm : Int32) (ls : Array Slot), ml.length < i + fu → i ≤ ml.length → xi = nI i → bl_ sm (∃ j, j < i ∧ ¬ M 5 j = 0) → bl_ mm (∃ j, j < i ∧ (M 5 j = 0 ∧ 0 < j ∧ j + 1 < ml.length)) → lv_has ls 4 [(0, .ref t), (1, .int sm), (2, .int mm), (3, .int xi)] → W p_ l e_ (rm_ 0 0 0) s m args below meth c_ H locs 0 0 Q (F0 m 6 ls []) := by
  have hx := S.1
  have hb := S.2.1
  have hK := hE.1
  intro fu
  induction fu with
  | zero =>
    intro i xi sm mm ls hfu hi exi hsm hmm hl
    exact absurd hfu (by omega)
  | succ fu ih =>
    intro i xi sm mm ls hfu hi exi hsm hmm hl
    obtain ⟨ht0, -, -, -, -, -, c5, -⟩ := id hc
    refine lv_iload_n hx hb d_Mo_isPattern_6 rfl (lv_at hl 3 rfl) ?_
    refine lv_aload_n hx hb d_Mo_isPattern_7 rfl (lv_at hl 0 rfl) ?_
    refine wd_get S i_Mo hK hW ht0 rfl 6 (by decide) k_Mo_77 rfl rfl d_Mo_isPattern_8 ?_
    refine lv_icmp_ge (tgt := 72) hx hb d_Mo_isPattern_11 (by decide) (fun h11 => ?_) (fun h11 => ?_)
    · have hin9 : i = ml.length := by rw [exi] at h11; have := (nI_leI (by omega) (by omega)).mp h11; omega
      subst hin9
      exact kk sm mm hsm hmm ls (lv_sub hl [0, 1, 2] rfl)
    · have hlt : i < ml.length := by rw [exi] at h11; exact Nat.lt_of_not_le (fun q => h11 (nI_le q (by omega)))
      have hin : vp_in xi 12 := by rw [exi]; exact vp_in_nI (by omega) (by omega)
      have hcl : xi.toNatClampNeg = i := by rw [exi]; exact nI_clamp (by omega)
      have hy0 : 0 ≤ M 5 i := by rw [hml i ml[i] (List.getElem?_eq_getElem hlt)]; exact wmx _ (List.getElem_mem hlt)
      refine lv_iload_n hx hb d_Mo_isPattern_14 rfl (lv_at hl 1 rfl) ?_
      refine lv_if_ne (tgt := 27) hx hb d_Mo_isPattern_15 (by decide) (fun h15 => ?_) (fun h15 => ?_)
      · refine lv_iconst (v := 1) hx hb d_Mo_isPattern_27 (by decide) ?_
        refine lv_goto (tgt := 32) hx hb d_Mo_isPattern_28 (by decide) ?_
        refine lv_istore_n (lv' := [(1, .int 1), (0, .ref t), (2, .int mm), (3, .int xi)]) hx hb d_Mo_isPattern_32 rfl hl (by decide) rfl (fun ls hl => ?_)
        refine lv_iload_n hx hb d_Mo_isPattern_33 rfl (lv_at hl 2 rfl) ?_
        refine lv_if_ne (tgt := 60) hx hb d_Mo_isPattern_34 (by decide) (fun hm => ?_) (fun hm => ?_)
        · refine lv_iconst (v := 1) hx hb d_Mo_isPattern_60 (by decide) ?_
          refine lv_goto (tgt := 65) hx hb d_Mo_isPattern_61 (by decide) ?_
          refine lv_istore_n (lv' := [(2, .int 1), (1, .int 1), (0, .ref t), (3, .int xi)]) hx hb d_Mo_isPattern_65 rfl hl (by decide) rfl (fun ls hl => ?_)
          obtain ⟨xi2, exi2⟩ : ∃ y : Int32, y = xi + 1 := ⟨_, rfl⟩
          refine lv_iinc (v := xi2) (lv' := [(3, .int xi2), (2, .int 1), (1, .int 1), (0, .ref t)]) hx hb d_Mo_isPattern_66 hl (k := 3) rfl (by rw [exi2]; rfl) (by decide) rfl (fun ls hl => ?_)
          refine lv_goto (tgt := 6) hx hb d_Mo_isPattern_69 (by decide) ?_
          exact ih (i + 1) xi2 1 1 _ (by omega) (by omega) (by rw [exi2, exi]; exact nI_1 i) (bl_ex1 hsm h15) (bl_ex1 hmm hm) (lv_sub hl [3, 2, 1, 0] rfl)
        · refine lv_aload_n hx hb d_Mo_isPattern_37 rfl (lv_at hl 1 rfl) ?_
          refine wd_get S i_Mo hK hW ht0 rfl 7 (by decide) k_Mo_26 rfl rfl d_Mo_isPattern_38 ?_
          refine lv_iload_n hx hb d_Mo_isPattern_41 rfl (lv_at hl 3 rfl) ?_
          refine wd_iald S hK hW 0 c5 rfl hin d_Mo_isPattern_42 ?_
          rw [hcl]
          refine lv_if_ne (tgt := 64) hx hb d_Mo_isPattern_43 (by decide) (fun hr5 => ?_) (fun hr5 => ?_)
          · refine lv_iconst (v := 0) hx hb d_Mo_isPattern_64 (by decide) ?_
            refine lv_istore_n (lv' := [(2, .int 0), (1, .int 1), (0, .ref t), (3, .int xi)]) hx hb d_Mo_isPattern_65 rfl hl (by decide) rfl (fun ls hl => ?_)
            obtain ⟨xi2, exi2⟩ : ∃ y : Int32, y = xi + 1 := ⟨_, rfl⟩
            refine lv_iinc (v := xi2) (lv' := [(3, .int xi2), (2, .int 0), (1, .int 1), (0, .ref t)]) hx hb d_Mo_isPattern_66 hl (k := 3) rfl (by rw [exi2]; rfl) (by decide) rfl (fun ls hl => ?_)
            refine lv_goto (tgt := 6) hx hb d_Mo_isPattern_69 (by decide) ?_
            exact ih (i + 1) xi2 1 0 _ (by omega) (by omega) (by rw [exi2, exi]; exact nI_1 i) (bl_ex1 hsm h15) (bl_ex0 hmm hm (fun q => hr5 q.1)) (lv_sub hl [3, 2, 1, 0] rfl)
          · refine lv_iload_n hx hb d_Mo_isPattern_46 rfl (lv_at hl 3 rfl) ?_
            refine lv_if_le (tgt := 64) hx hb d_Mo_isPattern_47 (by decide) (fun h47 => ?_) (fun h47 => ?_)
            · refine lv_iconst (v := 0) hx hb d_Mo_isPattern_64 (by decide) ?_
              refine lv_istore_n (lv' := [(2, .int 0), (1, .int 1), (0, .ref t), (3, .int xi)]) hx hb d_Mo_isPattern_65 rfl hl (by decide) rfl (fun ls hl => ?_)
              obtain ⟨xi2, exi2⟩ : ∃ y : Int32, y = xi + 1 := ⟨_, rfl⟩
              refine lv_iinc (v := xi2) (lv' := [(3, .int xi2), (2, .int 0), (1, .int 1), (0, .ref t)]) hx hb d_Mo_isPattern_66 hl (k := 3) rfl (by rw [exi2]; rfl) (by decide) rfl (fun ls hl => ?_)
              refine lv_goto (tgt := 6) hx hb d_Mo_isPattern_69 (by decide) ?_
              exact ih (i + 1) xi2 1 0 _ (by omega) (by omega) (by rw [exi2, exi]; exact nI_1 i) (bl_ex1 hsm h15) (bl_ex0 hmm hm (fun q => by rw [exi] at h47; have h9 := (nI_leI (a := i) (b := 0) (by omega) (by omega)).mp h47; have := q.2.1; omega)) (lv_sub hl [3, 2, 1, 0] rfl)
            · refine lv_iload_n hx hb d_Mo_isPattern_50 rfl (lv_at hl 3 rfl) ?_
              refine lv_aload_n hx hb d_Mo_isPattern_51 rfl (lv_at hl 1 rfl) ?_
              refine wd_get S i_Mo hK hW ht0 rfl 6 (by decide) k_Mo_77 rfl rfl d_Mo_isPattern_52 ?_
              refine lv_iconst (v := 1) hx hb d_Mo_isPattern_55 (by decide) ?_
              refine lv_isub hx hb d_Mo_isPattern_56 ?_
              rw [show nI ml.length - 1 = nI (ml.length - 1) from nI_pred3 (by omega)]
              refine lv_icmp_ge (tgt := 64) hx hb d_Mo_isPattern_57 (by decide) (fun h57 => ?_) (fun h57 => ?_)
              · refine lv_iconst (v := 0) hx hb d_Mo_isPattern_64 (by decide) ?_
                refine lv_istore_n (lv' := [(2, .int 0), (1, .int 1), (0, .ref t), (3, .int xi)]) hx hb d_Mo_isPattern_65 rfl hl (by decide) rfl (fun ls hl => ?_)
                obtain ⟨xi2, exi2⟩ : ∃ y : Int32, y = xi + 1 := ⟨_, rfl⟩
                refine lv_iinc (v := xi2) (lv' := [(3, .int xi2), (2, .int 0), (1, .int 1), (0, .ref t)]) hx hb d_Mo_isPattern_66 hl (k := 3) rfl (by rw [exi2]; rfl) (by decide) rfl (fun ls hl => ?_)
                refine lv_goto (tgt := 6) hx hb d_Mo_isPattern_69 (by decide) ?_
                exact ih (i + 1) xi2 1 0 _ (by omega) (by omega) (by rw [exi2, exi]; exact nI_1 i) (bl_ex1 hsm h15) (bl_ex0 hmm hm (fun q => by rw [exi] at h57; have h9 := (nI_leI (a := ml.length - 1) (b := i) (by omega) (by omega)).mp h57; have := q.2.2; omega)) (lv_sub hl [3, 2, 1, 0] rfl)
              · refine lv_iconst (v := 1) hx hb d_Mo_isPattern_60 (by decide) ?_
                refine lv_goto (tgt := 65) hx hb d_Mo_isPattern_61 (by decide) ?_
                refine lv_istore_n (lv' := [(2, .int 1), (1, .int 1), (0, .ref t), (3, .int xi)]) hx hb d_Mo_isPattern_65 rfl hl (by decide) rfl (fun ls hl => ?_)
                obtain ⟨xi2, exi2⟩ : ∃ y : Int32, y = xi + 1 := ⟨_, rfl⟩
                refine lv_iinc (v := xi2) (lv' := [(3, .int xi2), (2, .int 1), (1, .int 1), (0, .ref t)]) hx hb d_Mo_isPattern_66 hl (k := 3) rfl (by rw [exi2]; rfl) (by decide) rfl (fun ls hl => ?_)
                refine lv_goto (tgt := 6) hx hb d_Mo_isPattern_69 (by decide) ?_
                exact ih (i + 1) xi2 1 1 _ (by omega) (by omega) (by rw [exi2, exi]; exact nI_1 i) (bl_ex1 hsm h15) (bl_ex2 ⟨hr5, by rw [exi] at h47; exact Nat.pos_of_ne_zero (fun q => h47 (by rw [q]; exact Int32.le_refl _)), by rw [exi] at h57; have h9 : ¬ ml.length - 1 ≤ i := fun q => h57 (nI_le q (by omega)); omega⟩) (lv_sub hl [3, 2, 1, 0] rfl)
      · refine lv_aload_n hx hb d_Mo_isPattern_18 rfl (lv_at hl 0 rfl) ?_
        refine wd_get S i_Mo hK hW ht0 rfl 7 (by decide) k_Mo_26 rfl rfl d_Mo_isPattern_19 ?_
        refine lv_iload_n hx hb d_Mo_isPattern_22 rfl (lv_at hl 3 rfl) ?_
        refine wd_iald S hK hW 0 c5 rfl hin d_Mo_isPattern_23 ?_
        rw [hcl]
        refine lv_if_le (tgt := 31) hx hb d_Mo_isPattern_24 (by decide) (fun h24 => ?_) (fun h24 => ?_)
        · refine lv_iconst (v := 0) hx hb d_Mo_isPattern_31 (by decide) ?_
          refine lv_istore_n (lv' := [(1, .int 0), (0, .ref t), (2, .int mm), (3, .int xi)]) hx hb d_Mo_isPattern_32 rfl hl (by decide) rfl (fun ls hl => ?_)
          refine lv_iload_n hx hb d_Mo_isPattern_33 rfl (lv_at hl 2 rfl) ?_
          refine lv_if_ne (tgt := 60) hx hb d_Mo_isPattern_34 (by decide) (fun hm => ?_) (fun hm => ?_)
          · refine lv_iconst (v := 1) hx hb d_Mo_isPattern_60 (by decide) ?_
            refine lv_goto (tgt := 65) hx hb d_Mo_isPattern_61 (by decide) ?_
            refine lv_istore_n (lv' := [(2, .int 1), (1, .int 0), (0, .ref t), (3, .int xi)]) hx hb d_Mo_isPattern_65 rfl hl (by decide) rfl (fun ls hl => ?_)
            obtain ⟨xi2, exi2⟩ : ∃ y : Int32, y = xi + 1 := ⟨_, rfl⟩
            refine lv_iinc (v := xi2) (lv' := [(3, .int xi2), (2, .int 1), (1, .int 0), (0, .ref t)]) hx hb d_Mo_isPattern_66 hl (k := 3) rfl (by rw [exi2]; rfl) (by decide) rfl (fun ls hl => ?_)
            refine lv_goto (tgt := 6) hx hb d_Mo_isPattern_69 (by decide) ?_
            exact ih (i + 1) xi2 0 1 _ (by omega) (by omega) (by rw [exi2, exi]; exact nI_1 i) (bl_ex0 hsm h15 (fun q => q (Int32.le_antisymm h24 hy0))) (bl_ex1 hmm hm) (lv_sub hl [3, 2, 1, 0] rfl)
          · refine lv_aload_n hx hb d_Mo_isPattern_37 rfl (lv_at hl 1 rfl) ?_
            refine wd_get S i_Mo hK hW ht0 rfl 7 (by decide) k_Mo_26 rfl rfl d_Mo_isPattern_38 ?_
            refine lv_iload_n hx hb d_Mo_isPattern_41 rfl (lv_at hl 3 rfl) ?_
            refine wd_iald S hK hW 0 c5 rfl hin d_Mo_isPattern_42 ?_
            rw [hcl]
            refine lv_if_ne (tgt := 64) hx hb d_Mo_isPattern_43 (by decide) (fun hr5 => ?_) (fun hr5 => ?_)
            · refine lv_iconst (v := 0) hx hb d_Mo_isPattern_64 (by decide) ?_
              refine lv_istore_n (lv' := [(2, .int 0), (1, .int 0), (0, .ref t), (3, .int xi)]) hx hb d_Mo_isPattern_65 rfl hl (by decide) rfl (fun ls hl => ?_)
              obtain ⟨xi2, exi2⟩ : ∃ y : Int32, y = xi + 1 := ⟨_, rfl⟩
              refine lv_iinc (v := xi2) (lv' := [(3, .int xi2), (2, .int 0), (1, .int 0), (0, .ref t)]) hx hb d_Mo_isPattern_66 hl (k := 3) rfl (by rw [exi2]; rfl) (by decide) rfl (fun ls hl => ?_)
              refine lv_goto (tgt := 6) hx hb d_Mo_isPattern_69 (by decide) ?_
              exact ih (i + 1) xi2 0 0 _ (by omega) (by omega) (by rw [exi2, exi]; exact nI_1 i) (bl_ex0 hsm h15 (fun q => q (Int32.le_antisymm h24 hy0))) (bl_ex0 hmm hm (fun q => hr5 q.1)) (lv_sub hl [3, 2, 1, 0] rfl)
            · refine lv_iload_n hx hb d_Mo_isPattern_46 rfl (lv_at hl 3 rfl) ?_
              refine lv_if_le (tgt := 64) hx hb d_Mo_isPattern_47 (by decide) (fun h47 => ?_) (fun h47 => ?_)
              · refine lv_iconst (v := 0) hx hb d_Mo_isPattern_64 (by decide) ?_
                refine lv_istore_n (lv' := [(2, .int 0), (1, .int 0), (0, .ref t), (3, .int xi)]) hx hb d_Mo_isPattern_65 rfl hl (by decide) rfl (fun ls hl => ?_)
                obtain ⟨xi2, exi2⟩ : ∃ y : Int32, y = xi + 1 := ⟨_, rfl⟩
                refine lv_iinc (v := xi2) (lv' := [(3, .int xi2), (2, .int 0), (1, .int 0), (0, .ref t)]) hx hb d_Mo_isPattern_66 hl (k := 3) rfl (by rw [exi2]; rfl) (by decide) rfl (fun ls hl => ?_)
                refine lv_goto (tgt := 6) hx hb d_Mo_isPattern_69 (by decide) ?_
                exact ih (i + 1) xi2 0 0 _ (by omega) (by omega) (by rw [exi2, exi]; exact nI_1 i) (bl_ex0 hsm h15 (fun q => q (Int32.le_antisymm h24 hy0))) (bl_ex0 hmm hm (fun q => by rw [exi] at h47; have h9 := (nI_leI (a := i) (b := 0) (by omega) (by omega)).mp h47; have := q.2.1; omega)) (lv_sub hl [3, 2, 1, 0] rfl)
              · refine lv_iload_n hx hb d_Mo_isPattern_50 rfl (lv_at hl 3 rfl) ?_
                refine lv_aload_n hx hb d_Mo_isPattern_51 rfl (lv_at hl 1 rfl) ?_
                refine wd_get S i_Mo hK hW ht0 rfl 6 (by decide) k_Mo_77 rfl rfl d_Mo_isPattern_52 ?_
                refine lv_iconst (v := 1) hx hb d_Mo_isPattern_55 (by decide) ?_
                refine lv_isub hx hb d_Mo_isPattern_56 ?_
                rw [show nI ml.length - 1 = nI (ml.length - 1) from nI_pred3 (by omega)]
                refine lv_icmp_ge (tgt := 64) hx hb d_Mo_isPattern_57 (by decide) (fun h57 => ?_) (fun h57 => ?_)
                · refine lv_iconst (v := 0) hx hb d_Mo_isPattern_64 (by decide) ?_
                  refine lv_istore_n (lv' := [(2, .int 0), (1, .int 0), (0, .ref t), (3, .int xi)]) hx hb d_Mo_isPattern_65 rfl hl (by decide) rfl (fun ls hl => ?_)
                  obtain ⟨xi2, exi2⟩ : ∃ y : Int32, y = xi + 1 := ⟨_, rfl⟩
                  refine lv_iinc (v := xi2) (lv' := [(3, .int xi2), (2, .int 0), (1, .int 0), (0, .ref t)]) hx hb d_Mo_isPattern_66 hl (k := 3) rfl (by rw [exi2]; rfl) (by decide) rfl (fun ls hl => ?_)
                  refine lv_goto (tgt := 6) hx hb d_Mo_isPattern_69 (by decide) ?_
                  exact ih (i + 1) xi2 0 0 _ (by omega) (by omega) (by rw [exi2, exi]; exact nI_1 i) (bl_ex0 hsm h15 (fun q => q (Int32.le_antisymm h24 hy0))) (bl_ex0 hmm hm (fun q => by rw [exi] at h57; have h9 := (nI_leI (a := ml.length - 1) (b := i) (by omega) (by omega)).mp h57; have := q.2.2; omega)) (lv_sub hl [3, 2, 1, 0] rfl)
                · refine lv_iconst (v := 1) hx hb d_Mo_isPattern_60 (by decide) ?_
                  refine lv_goto (tgt := 65) hx hb d_Mo_isPattern_61 (by decide) ?_
                  refine lv_istore_n (lv' := [(2, .int 1), (1, .int 0), (0, .ref t), (3, .int xi)]) hx hb d_Mo_isPattern_65 rfl hl (by decide) rfl (fun ls hl => ?_)
                  obtain ⟨xi2, exi2⟩ : ∃ y : Int32, y = xi + 1 := ⟨_, rfl⟩
                  refine lv_iinc (v := xi2) (lv' := [(3, .int xi2), (2, .int 1), (1, .int 0), (0, .ref t)]) hx hb d_Mo_isPattern_66 hl (k := 3) rfl (by rw [exi2]; rfl) (by decide) rfl (fun ls hl => ?_)
                  refine lv_goto (tgt := 6) hx hb d_Mo_isPattern_69 (by decide) ?_
                  exact ih (i + 1) xi2 0 1 _ (by omega) (by omega) (by rw [exi2, exi]; exact nI_1 i) (bl_ex0 hsm h15 (fun q => q (Int32.le_antisymm h24 hy0))) (bl_ex2 ⟨hr5, by rw [exi] at h47; exact Nat.pos_of_ne_zero (fun q => h47 (by rw [q]; exact Int32.le_refl _)), by rw [exi] at h57; have h9 : ¬ ml.length - 1 ≤ i := fun q => h57 (nI_le q (by omega)); omega⟩) (lv_sub hl [3, 2, 1, 0] rfl)
        · refine lv_iconst (v := 1) hx hb d_Mo_isPattern_27 (by decide) ?_
          refine lv_goto (tgt := 32) hx hb d_Mo_isPattern_28 (by decide) ?_
          refine lv_istore_n (lv' := [(1, .int 1), (0, .ref t), (2, .int mm), (3, .int xi)]) hx hb d_Mo_isPattern_32 rfl hl (by decide) rfl (fun ls hl => ?_)
          refine lv_iload_n hx hb d_Mo_isPattern_33 rfl (lv_at hl 2 rfl) ?_
          refine lv_if_ne (tgt := 60) hx hb d_Mo_isPattern_34 (by decide) (fun hm => ?_) (fun hm => ?_)
          · refine lv_iconst (v := 1) hx hb d_Mo_isPattern_60 (by decide) ?_
            refine lv_goto (tgt := 65) hx hb d_Mo_isPattern_61 (by decide) ?_
            refine lv_istore_n (lv' := [(2, .int 1), (1, .int 1), (0, .ref t), (3, .int xi)]) hx hb d_Mo_isPattern_65 rfl hl (by decide) rfl (fun ls hl => ?_)
            obtain ⟨xi2, exi2⟩ : ∃ y : Int32, y = xi + 1 := ⟨_, rfl⟩
            refine lv_iinc (v := xi2) (lv' := [(3, .int xi2), (2, .int 1), (1, .int 1), (0, .ref t)]) hx hb d_Mo_isPattern_66 hl (k := 3) rfl (by rw [exi2]; rfl) (by decide) rfl (fun ls hl => ?_)
            refine lv_goto (tgt := 6) hx hb d_Mo_isPattern_69 (by decide) ?_
            exact ih (i + 1) xi2 1 1 _ (by omega) (by omega) (by rw [exi2, exi]; exact nI_1 i) (bl_ex2 (fun q => h24 (by rw [q]; exact Int32.le_refl _))) (bl_ex1 hmm hm) (lv_sub hl [3, 2, 1, 0] rfl)
          · refine lv_aload_n hx hb d_Mo_isPattern_37 rfl (lv_at hl 1 rfl) ?_
            refine wd_get S i_Mo hK hW ht0 rfl 7 (by decide) k_Mo_26 rfl rfl d_Mo_isPattern_38 ?_
            refine lv_iload_n hx hb d_Mo_isPattern_41 rfl (lv_at hl 3 rfl) ?_
            refine wd_iald S hK hW 0 c5 rfl hin d_Mo_isPattern_42 ?_
            rw [hcl]
            refine lv_if_ne (tgt := 64) hx hb d_Mo_isPattern_43 (by decide) (fun hr5 => ?_) (fun hr5 => ?_)
            · refine lv_iconst (v := 0) hx hb d_Mo_isPattern_64 (by decide) ?_
              refine lv_istore_n (lv' := [(2, .int 0), (1, .int 1), (0, .ref t), (3, .int xi)]) hx hb d_Mo_isPattern_65 rfl hl (by decide) rfl (fun ls hl => ?_)
              obtain ⟨xi2, exi2⟩ : ∃ y : Int32, y = xi + 1 := ⟨_, rfl⟩
              refine lv_iinc (v := xi2) (lv' := [(3, .int xi2), (2, .int 0), (1, .int 1), (0, .ref t)]) hx hb d_Mo_isPattern_66 hl (k := 3) rfl (by rw [exi2]; rfl) (by decide) rfl (fun ls hl => ?_)
              refine lv_goto (tgt := 6) hx hb d_Mo_isPattern_69 (by decide) ?_
              exact ih (i + 1) xi2 1 0 _ (by omega) (by omega) (by rw [exi2, exi]; exact nI_1 i) (bl_ex2 (fun q => h24 (by rw [q]; exact Int32.le_refl _))) (bl_ex0 hmm hm (fun q => hr5 q.1)) (lv_sub hl [3, 2, 1, 0] rfl)
            · refine lv_iload_n hx hb d_Mo_isPattern_46 rfl (lv_at hl 3 rfl) ?_
              refine lv_if_le (tgt := 64) hx hb d_Mo_isPattern_47 (by decide) (fun h47 => ?_) (fun h47 => ?_)
              · refine lv_iconst (v := 0) hx hb d_Mo_isPattern_64 (by decide) ?_
                refine lv_istore_n (lv' := [(2, .int 0), (1, .int 1), (0, .ref t), (3, .int xi)]) hx hb d_Mo_isPattern_65 rfl hl (by decide) rfl (fun ls hl => ?_)
                obtain ⟨xi2, exi2⟩ : ∃ y : Int32, y = xi + 1 := ⟨_, rfl⟩
                refine lv_iinc (v := xi2) (lv' := [(3, .int xi2), (2, .int 0), (1, .int 1), (0, .ref t)]) hx hb d_Mo_isPattern_66 hl (k := 3) rfl (by rw [exi2]; rfl) (by decide) rfl (fun ls hl => ?_)
                refine lv_goto (tgt := 6) hx hb d_Mo_isPattern_69 (by decide) ?_
                exact ih (i + 1) xi2 1 0 _ (by omega) (by omega) (by rw [exi2, exi]; exact nI_1 i) (bl_ex2 (fun q => h24 (by rw [q]; exact Int32.le_refl _))) (bl_ex0 hmm hm (fun q => by rw [exi] at h47; have h9 := (nI_leI (a := i) (b := 0) (by omega) (by omega)).mp h47; have := q.2.1; omega)) (lv_sub hl [3, 2, 1, 0] rfl)
              · refine lv_iload_n hx hb d_Mo_isPattern_50 rfl (lv_at hl 3 rfl) ?_
                refine lv_aload_n hx hb d_Mo_isPattern_51 rfl (lv_at hl 1 rfl) ?_
                refine wd_get S i_Mo hK hW ht0 rfl 6 (by decide) k_Mo_77 rfl rfl d_Mo_isPattern_52 ?_
                refine lv_iconst (v := 1) hx hb d_Mo_isPattern_55 (by decide) ?_
                refine lv_isub hx hb d_Mo_isPattern_56 ?_
                rw [show nI ml.length - 1 = nI (ml.length - 1) from nI_pred3 (by omega)]
                refine lv_icmp_ge (tgt := 64) hx hb d_Mo_isPattern_57 (by decide) (fun h57 => ?_) (fun h57 => ?_)
                · refine lv_iconst (v := 0) hx hb d_Mo_isPattern_64 (by decide) ?_
                  refine lv_istore_n (lv' := [(2, .int 0), (1, .int 1), (0, .ref t), (3, .int xi)]) hx hb d_Mo_isPattern_65 rfl hl (by decide) rfl (fun ls hl => ?_)
                  obtain ⟨xi2, exi2⟩ : ∃ y : Int32, y = xi + 1 := ⟨_, rfl⟩
                  refine lv_iinc (v := xi2) (lv' := [(3, .int xi2), (2, .int 0), (1, .int 1), (0, .ref t)]) hx hb d_Mo_isPattern_66 hl (k := 3) rfl (by rw [exi2]; rfl) (by decide) rfl (fun ls hl => ?_)
                  refine lv_goto (tgt := 6) hx hb d_Mo_isPattern_69 (by decide) ?_
                  exact ih (i + 1) xi2 1 0 _ (by omega) (by omega) (by rw [exi2, exi]; exact nI_1 i) (bl_ex2 (fun q => h24 (by rw [q]; exact Int32.le_refl _))) (bl_ex0 hmm hm (fun q => by rw [exi] at h57; have h9 := (nI_leI (a := ml.length - 1) (b := i) (by omega) (by omega)).mp h57; have := q.2.2; omega)) (lv_sub hl [3, 2, 1, 0] rfl)
                · refine lv_iconst (v := 1) hx hb d_Mo_isPattern_60 (by decide) ?_
                  refine lv_goto (tgt := 65) hx hb d_Mo_isPattern_61 (by decide) ?_
                  refine lv_istore_n (lv' := [(2, .int 1), (1, .int 1), (0, .ref t), (3, .int xi)]) hx hb d_Mo_isPattern_65 rfl hl (by decide) rfl (fun ls hl => ?_)
                  obtain ⟨xi2, exi2⟩ : ∃ y : Int32, y = xi + 1 := ⟨_, rfl⟩
                  refine lv_iinc (v := xi2) (lv' := [(3, .int xi2), (2, .int 1), (1, .int 1), (0, .ref t)]) hx hb d_Mo_isPattern_66 hl (k := 3) rfl (by rw [exi2]; rfl) (by decide) rfl (fun ls hl => ?_)
                  refine lv_goto (tgt := 6) hx hb d_Mo_isPattern_69 (by decide) ?_
                  exact ih (i + 1) xi2 1 1 _ (by omega) (by omega) (by rw [exi2, exi]; exact nI_1 i) (bl_ex2 (fun q => h24 (by rw [q]; exact Int32.le_refl _))) (bl_ex2 ⟨hr5, by rw [exi] at h47; exact Nat.pos_of_ne_zero (fun q => h47 (by rw [q]; exact Int32.le_refl _)), by rw [exi] at h57; have h9 : ¬ ml.length - 1 ≤ i := fun q => h57 (nI_le q (by omega)); omega⟩) (lv_sub hl [3, 2, 1, 0] rfl)

set_option maxHeartbeats 4000000 in
set_option maxRecDepth 100000 in
/-- isPattern() -/
theorem c_Mo_isPattern (l : Launch) (G : ev_G) (w : wd_M) (sz : Nat) (t : Nat) (C : Nat → Nat) (M : Nat → Nat → Int32) (ln pn tn en sn qn : Int32) (ml : List Int32) (hc : mo_c G w t C M ln (nI ml.length) pn tn en sn qn) (hml : li_ ml (M 5)) (wml : ml.length ≤ 12) (wmx : ∀ x ∈ ml, 0 ≤ x) : ct_i l y_Mo_isPattern b_Mo_isPattern 4 (some FieldType.boolean) (rm_ 0 0 0) G w sz [.ref t] (fun v u => bl_ v (hy_pat ml) ∧ u = w) := by
  refine ct_enter (by decide +kernel) (Nat.le_of_ble_eq_true rfl) ?_
  intro p_ e_ s m below meth c_ hsz S hr hlocks hname hE hW ls hl
  have S : CallFix p_ m c_ b_Mo_isPattern 4 s _ lw_good "HyphenRowsModel" := S
  have hx := S.1
  have hb := S.2.1
  have hK := hE.1
  have hl : lv_has ls 4 [(0, .ref t)] := hl
  refine lv_iconst (v := 0) hx hb d_Mo_isPattern_0 (by decide) ?_
  refine lv_istore_n (lv' := [(1, .int 0), (0, .ref t)]) hx hb d_Mo_isPattern_1 rfl hl (by decide) rfl (fun ls hl => ?_)
  refine lv_iconst (v := 0) hx hb d_Mo_isPattern_2 (by decide) ?_
  refine lv_istore_n (lv' := [(2, .int 0), (1, .int 0), (0, .ref t)]) hx hb d_Mo_isPattern_3 rfl hl (by decide) rfl (fun ls hl => ?_)
  refine lv_iconst (v := 0) hx hb d_Mo_isPattern_4 (by decide) ?_
  refine lv_istore_n (lv' := [(3, .int 0), (2, .int 0), (1, .int 0), (0, .ref t)]) hx hb d_Mo_isPattern_5 rfl hl (by decide) rfl (fun ls hl => ?_)
  refine lo_Mo_isPattern S hE hW hc hml wml wmx (fun sm mm hsm hmm ls hl => ?_) (ml.length + 1) 0 0 0 0 _ (by omega) (Nat.zero_le _) nI_0.symm (Or.inr ⟨rfl, fun q => by obtain ⟨j, hj, -⟩ := q; omega⟩) (Or.inr ⟨rfl, fun q => by obtain ⟨j, hj, -⟩ := q; omega⟩) (lv_sub hl [3, 2, 1, 0] rfl)
  have hpi := pat_iff hml
  refine lv_iload_n hx hb d_Mo_isPattern_72 rfl (lv_at hl 1 rfl) ?_
  refine lv_if_eq (tgt := 84) hx hb d_Mo_isPattern_73 (by decide) (fun h73 => ?_) (fun h73 => ?_)
  · refine lv_iconst (v := 0) hx hb d_Mo_isPattern_84 (by decide) ?_
    exact ct_iret S hr rfl hlocks hW (⟨Or.inr ⟨rfl, fun q => bl_f hsm h73 (hpi.mpr q).1⟩, rfl⟩) (Nat.le_refl _) (Nat.le_refl _) d_Mo_isPattern_85
  · refine lv_iload_n hx hb d_Mo_isPattern_76 rfl (lv_at hl 2 rfl) ?_
    refine lv_if_ne (tgt := 84) hx hb d_Mo_isPattern_77 (by decide) (fun h77 => ?_) (fun h77 => ?_)
    · refine lv_iconst (v := 0) hx hb d_Mo_isPattern_84 (by decide) ?_
      exact ct_iret S hr rfl hlocks hW (⟨Or.inr ⟨rfl, fun q => by obtain ⟨j, hj, h1, h2, h3⟩ := bl_t hmm h77; have := (hpi.mpr q).2 j hj h1; omega⟩, rfl⟩) (Nat.le_refl _) (Nat.le_refl _) d_Mo_isPattern_85
    · refine lv_iconst (v := 1) hx hb d_Mo_isPattern_80 (by decide) ?_
      refine lv_goto (tgt := 85) hx hb d_Mo_isPattern_81 (by decide) ?_
      exact ct_iret S hr rfl hlocks hW (⟨Or.inl ⟨rfl, hpi.mp ⟨bl_t hsm h73, fun j hj h0 => Classical.byContradiction (fun z => bl_f hmm h77 ⟨j, hj, h0, by omega, by omega⟩)⟩⟩, rfl⟩) (Nat.le_refl _) (Nat.le_refl _) d_Mo_isPattern_85

set_option maxHeartbeats 4000000 in
set_option maxRecDepth 100000 in
/-- the loop of isSame -/
theorem lo_Mo_isSame {p_ : Program} {l : Launch} {e_ : Env} {s : State} {m : MethodId} {args : Array Value} {below : List Frame} {meth : Method} {c_ : Code} {Q : State → Prop} {G : ev_G} {A : Nat → Prop} (S : CallFix p_ m c_ b_Mo_isSame 5 s args lw_good "HyphenRowsModel") (hE : ev_K G A s s.heap) {w : wd_M} {H : Heap} {locs : List Loc} {t : Nat} {C : Nat → Nat} {M : Nat → Nat → Int32} {ln pn tn en sn qn : Int32} {ml : List Int32} {k lx : Nat} {p : hy_P} (hW : wd_W G.1 ev_cl A w s.heap H locs) (hc : mo_c G w t C M ln (nI ml.length) pn tn en sn qn) (hml : li_ ml (M 5)) (wml : ml.length ≤ 12) (wmx : ∀ x ∈ ml, 0 ≤ x) (hk150 : k < 150) (kk : ∀ sm : Int32, bl_ sm ((p.1 = lx ∧ p.2.1.length = ml.length) ∧ ∀ j, j < ml.length → M 9 (12 * k + j) = M 5 j) → ∀ ls : Array Slot, lv_has ls 5 [(0, .ref t), (3, .int sm)] → W p_ l e_ (rm_ 0 0 0) s m args below meth c_ H locs 0 0 Q (F0 m 79 ls [])) :
    ∀ (fu : Nat) (i : Nat) (xi : Int32) (sm : Int32) (ls : Array Slot), ml.length < i + fu → i ≤ ml.length → xi = nI i → bl_ sm ((p.1 = lx ∧ p.2.1.length = ml.length) ∧ ∀ j, j < i → M 9 (12 * k + j) = M 5 j) → lv_has ls 5 [(0, .ref t), (1, .int (nI k)), (2, .int (nI lx)), (3, .int sm), (4, .int xi)] → W p_ l e_ (rm_ 0 0 0) s m args below meth c_ H locs 0 0 Q (F0 m 32 ls []) := by
  have hx := S.1
  have hb := S.2.1
  have hK := hE.1
  intro fu
  induction fu with
  | zero =>
    intro i xi sm ls hfu hi exi hsm hl
    exact absurd hfu (by omega)
  | succ fu ih =>
    intro i xi sm ls hfu hi exi hsm hl
    obtain ⟨ht0, -, -, -, -, -, c5, -, -, -, c9, -⟩ := id hc
    refine lv_iload hx hb d_Mo_isSame_32 (lv_at hl 4 rfl) ?_
    refine lv_aload_n hx hb d_Mo_isSame_34 rfl (lv_at hl 0 rfl) ?_
    refine wd_get S i_Mo hK hW ht0 rfl 6 (by decide) k_Mo_77 rfl rfl d_Mo_isSame_35 ?_
    refine lv_icmp_ge (tgt := 79) hx hb d_Mo_isSame_38 (by decide) (fun h38 => ?_) (fun h38 => ?_)
    · have hin9 : i = ml.length := by rw [exi] at h38; have := (nI_leI (by omega) (by omega)).mp h38; omega
      subst hin9
      exact kk sm hsm ls (lv_sub hl [0, 3] rfl)
    · have hlt : i < ml.length := by rw [exi] at h38; exact Nat.lt_of_not_le (fun q => h38 (nI_le q (by omega)))
      have hin : vp_in xi 12 := by rw [exi]; exact vp_in_nI (by omega) (by omega)
      have hcl : xi.toNatClampNeg = i := by rw [exi]; exact nI_clamp (by omega)
      refine lv_iload_n hx hb d_Mo_isSame_41 rfl (lv_at hl 3 rfl) ?_
      refine lv_if_eq (tgt := 79) hx hb d_Mo_isSame_42 (by decide) (fun h42 => ?_) (fun h42 => ?_)
      · exact kk sm (bl_alx hsm h42 hi) ls (lv_sub hl [0, 3] rfl)
      · refine lv_aload_n hx hb d_Mo_isSame_45 rfl (lv_at hl 0 rfl) ?_
        refine wd_get S i_Mo hK hW ht0 rfl 13 (by decide) k_Mo_38 rfl rfl d_Mo_isSame_46 ?_
        refine lv_bipush (v := 12) hx hb d_Mo_isSame_49 (by decide) ?_
        refine lv_iload_n hx hb d_Mo_isSame_51 rfl (lv_at hl 1 rfl) ?_
        refine lv_imul hx hb d_Mo_isSame_52 ?_
        refine lv_iload hx hb d_Mo_isSame_53 (lv_at hl 4 rfl) ?_
        refine lv_iadd hx hb d_Mo_isSame_55 ?_
        rw [show (12 : Int32) * nI k + xi = nI (12 * k + i) from by rw [exi]; exact ix_12 k i]
        refine wd_iald S hK hW 0 c9 rfl (vp_in_nI (by omega) (by omega)) d_Mo_isSame_56 ?_
        rw [nI_clamp (by omega)]
        refine lv_aload_n hx hb d_Mo_isSame_57 rfl (lv_at hl 0 rfl) ?_
        refine wd_get S i_Mo hK hW ht0 rfl 7 (by decide) k_Mo_26 rfl rfl d_Mo_isSame_58 ?_
        refine lv_iload hx hb d_Mo_isSame_61 (lv_at hl 4 rfl) ?_
        refine wd_iald S hK hW 0 c5 rfl hin d_Mo_isSame_63 ?_
        rw [hcl]
        refine lv_icmp_ne (tgt := 71) hx hb d_Mo_isSame_64 (by decide) (fun h64 => ?_) (fun h64 => ?_)
        · refine lv_iconst (v := 0) hx hb d_Mo_isSame_71 (by decide) ?_
          refine lv_istore_n (lv' := [(3, .int 0), (0, .ref t), (1, .int (nI k)), (2, .int (nI lx)), (4, .int xi)]) hx hb d_Mo_isSame_72 rfl hl (by decide) rfl (fun ls hl => ?_)
          obtain ⟨xi2, exi2⟩ : ∃ y : Int32, y = xi + 1 := ⟨_, rfl⟩
          refine lv_iinc (v := xi2) (lv' := [(4, .int xi2), (3, .int 0), (0, .ref t), (1, .int (nI k)), (2, .int (nI lx))]) hx hb d_Mo_isSame_73 hl (k := 4) rfl (by rw [exi2]; rfl) (by decide) rfl (fun ls hl => ?_)
          refine lv_goto (tgt := 32) hx hb d_Mo_isSame_76 (by decide) ?_
          exact ih (i + 1) xi2 0 _ (by omega) (by omega) (by rw [exi2, exi]; exact nI_1 i) (bl_al0 h64) (lv_sub hl [2, 3, 4, 1, 0] rfl)
        · refine lv_iconst (v := 1) hx hb d_Mo_isSame_67 (by decide) ?_
          refine lv_goto (tgt := 72) hx hb d_Mo_isSame_68 (by decide) ?_
          refine lv_istore_n (lv' := [(3, .int 1), (0, .ref t), (1, .int (nI k)), (2, .int (nI lx)), (4, .int xi)]) hx hb d_Mo_isSame_72 rfl hl (by decide) rfl (fun ls hl => ?_)
          obtain ⟨xi2, exi2⟩ : ∃ y : Int32, y = xi + 1 := ⟨_, rfl⟩
          refine lv_iinc (v := xi2) (lv' := [(4, .int xi2), (3, .int 1), (0, .ref t), (1, .int (nI k)), (2, .int (nI lx))]) hx hb d_Mo_isSame_73 hl (k := 4) rfl (by rw [exi2]; rfl) (by decide) rfl (fun ls hl => ?_)
          refine lv_goto (tgt := 32) hx hb d_Mo_isSame_76 (by decide) ?_
          exact ih (i + 1) xi2 1 _ (by omega) (by omega) (by rw [exi2, exi]; exact nI_1 i) (bl_al1 hsm h42 h64) (lv_sub hl [2, 3, 4, 1, 0] rfl)

set_option maxHeartbeats 4000000 in
set_option maxRecDepth 100000 in
/-- isSame(k, lx) -/
theorem c_Mo_isSame (l : Launch) (G : ev_G) (w : wd_M) (sz : Nat) (t : Nat) (C : Nat → Nat) (M : Nat → Nat → Int32) (ln pn tn en sn qn : Int32) (ml : List Int32) (Ps : List hy_P) (k lx : Nat) (p : hy_P) (hc : mo_c G w t C M ln (nI ml.length) pn tn en sn qn) (hml : li_ ml (M 5)) (wml : ml.length ≤ 12) (wmx : ∀ x ∈ ml, 0 ≤ x) (hpk : Ps[k]? = some p) (hp0 : mo_p Ps M) (hk150 : k < 150) (hp1 : p.1 < 4 ∧ 1 ≤ p.2.1.length ∧ p.2.1.length ≤ 12) (hlx : lx < 4) : ct_i l y_Mo_isSame b_Mo_isSame 5 (some FieldType.boolean) (rm_ 0 0 0) G w sz [.ref t, .int (nI k), .int (nI lx)] (fun v u => bl_ v (p.1 = lx ∧ p.2.1 = ml) ∧ u = w) := by
  refine ct_enter (by decide +kernel) (Nat.le_of_ble_eq_true rfl) ?_
  intro p_ e_ s m below meth c_ hsz S hr hlocks hname hE hW ls hl
  have S : CallFix p_ m c_ b_Mo_isSame 5 s _ lw_good "HyphenRowsModel" := S
  have hx := S.1
  have hb := S.2.1
  have hK := hE.1
  have hl : lv_has ls 5 [(0, .ref t), (1, .int (nI k)), (2, .int (nI lx))] := hl
  obtain ⟨ht0, -, -, -, -, -, -, -, c7, c8, -⟩ := id hc
  obtain ⟨m7, m8, m9, m10⟩ := hp0 k p hpk
  refine lv_aload_n hx hb d_Mo_isSame_0 rfl (lv_at hl 0 rfl) ?_
  refine wd_get S i_Mo hK hW ht0 rfl 11 (by decide) k_Mo_32 rfl rfl d_Mo_isSame_1 ?_
  refine lv_iload_n hx hb d_Mo_isSame_4 rfl (lv_at hl 1 rfl) ?_
  refine wd_iald S hK hW 0 c7 rfl (vp_in_nI (by omega) (by omega)) d_Mo_isSame_5 ?_
  rw [nI_clamp (by omega), m7]
  refine lv_iload_n hx hb d_Mo_isSame_6 rfl (lv_at hl 2 rfl) ?_
  refine lv_icmp_ne (tgt := 27) hx hb d_Mo_isSame_7 (by decide) (fun h7 => ?_) (fun h7 => ?_)
  · refine lv_iconst (v := 0) hx hb d_Mo_isSame_27 (by decide) ?_
    refine lv_istore_n (lv' := [(3, .int 0), (0, .ref t), (1, .int (nI k)), (2, .int (nI lx))]) hx hb d_Mo_isSame_28 rfl hl (by decide) rfl (fun ls hl => ?_)
    refine lv_iconst (v := 0) hx hb d_Mo_isSame_29 (by decide) ?_
    refine lv_istore (lv' := [(4, .int 0), (3, .int 0), (0, .ref t), (1, .int (nI k)), (2, .int (nI lx))]) hx hb d_Mo_isSame_30 hl (by decide) rfl (fun ls hl => ?_)
    refine lo_Mo_isSame (p := p) (lx := lx) S hE hW hc hml wml wmx hk150 (fun sm hsm ls hl => ?_) (ml.length + 1) 0 0 0 _ (by omega) (Nat.zero_le _) nI_0.symm (Or.inr ⟨rfl, fun q => h7 (by rw [q.1.1])⟩) (lv_sub hl [2, 3, 4, 1, 0] rfl)
    have hiff : ((p.1 = lx ∧ p.2.1.length = ml.length) ∧ ∀ j, j < ml.length → M 9 (12 * k + j) = M 5 j) ↔ (p.1 = lx ∧ p.2.1 = ml) := ⟨fun q => ⟨q.1.1, li_one (f := fun j => M 9 (12 * k + j)) (g := M 5) m9 hml q.1.2 (fun j hj => q.2 j (by omega))⟩, fun q => ⟨⟨q.1, by rw [q.2]⟩, fun j hj => (m9 j ml[j] (by rw [q.2]; exact List.getElem?_eq_getElem hj)).trans (hml j ml[j] (List.getElem?_eq_getElem hj)).symm⟩⟩
    refine lv_iload_n hx hb d_Mo_isSame_79 rfl (lv_at hl 1 rfl) ?_
    exact ct_iret S hr (bl_01 hsm) hlocks hW (⟨bl_i hsm hiff, rfl⟩) (Nat.le_refl _) (Nat.le_refl _) d_Mo_isSame_80
  · refine lv_aload_n hx hb d_Mo_isSame_10 rfl (lv_at hl 0 rfl) ?_
    refine wd_get S i_Mo hK hW ht0 rfl 12 (by decide) k_Mo_35 rfl rfl d_Mo_isSame_11 ?_
    refine lv_iload_n hx hb d_Mo_isSame_14 rfl (lv_at hl 1 rfl) ?_
    refine wd_iald S hK hW 0 c8 rfl (vp_in_nI (by omega) (by omega)) d_Mo_isSame_15 ?_
    rw [nI_clamp (by omega), m8]
    refine lv_aload_n hx hb d_Mo_isSame_16 rfl (lv_at hl 0 rfl) ?_
    refine wd_get S i_Mo hK hW ht0 rfl 6 (by decide) k_Mo_77 rfl rfl d_Mo_isSame_17 ?_
    refine lv_icmp_ne (tgt := 27) hx hb d_Mo_isSame_20 (by decide) (fun h20 => ?_) (fun h20 => ?_)
    · refine lv_iconst (v := 0) hx hb d_Mo_isSame_27 (by decide) ?_
      refine lv_istore_n (lv' := [(3, .int 0), (0, .ref t), (1, .int (nI k)), (2, .int (nI lx))]) hx hb d_Mo_isSame_28 rfl hl (by decide) rfl (fun ls hl => ?_)
      refine lv_iconst (v := 0) hx hb d_Mo_isSame_29 (by decide) ?_
      refine lv_istore (lv' := [(4, .int 0), (3, .int 0), (0, .ref t), (1, .int (nI k)), (2, .int (nI lx))]) hx hb d_Mo_isSame_30 hl (by decide) rfl (fun ls hl => ?_)
      refine lo_Mo_isSame (p := p) (lx := lx) S hE hW hc hml wml wmx hk150 (fun sm hsm ls hl => ?_) (ml.length + 1) 0 0 0 _ (by omega) (Nat.zero_le _) nI_0.symm (Or.inr ⟨rfl, fun q => h20 (by rw [q.1.2])⟩) (lv_sub hl [2, 3, 4, 1, 0] rfl)
      have hiff : ((p.1 = lx ∧ p.2.1.length = ml.length) ∧ ∀ j, j < ml.length → M 9 (12 * k + j) = M 5 j) ↔ (p.1 = lx ∧ p.2.1 = ml) := ⟨fun q => ⟨q.1.1, li_one (f := fun j => M 9 (12 * k + j)) (g := M 5) m9 hml q.1.2 (fun j hj => q.2 j (by omega))⟩, fun q => ⟨⟨q.1, by rw [q.2]⟩, fun j hj => (m9 j ml[j] (by rw [q.2]; exact List.getElem?_eq_getElem hj)).trans (hml j ml[j] (List.getElem?_eq_getElem hj)).symm⟩⟩
      refine lv_iload_n hx hb d_Mo_isSame_79 rfl (lv_at hl 1 rfl) ?_
      exact ct_iret S hr (bl_01 hsm) hlocks hW (⟨bl_i hsm hiff, rfl⟩) (Nat.le_refl _) (Nat.le_refl _) d_Mo_isSame_80
    · refine lv_iconst (v := 1) hx hb d_Mo_isSame_23 (by decide) ?_
      refine lv_goto (tgt := 28) hx hb d_Mo_isSame_24 (by decide) ?_
      refine lv_istore_n (lv' := [(3, .int 1), (0, .ref t), (1, .int (nI k)), (2, .int (nI lx))]) hx hb d_Mo_isSame_28 rfl hl (by decide) rfl (fun ls hl => ?_)
      refine lv_iconst (v := 0) hx hb d_Mo_isSame_29 (by decide) ?_
      refine lv_istore (lv' := [(4, .int 0), (3, .int 1), (0, .ref t), (1, .int (nI k)), (2, .int (nI lx))]) hx hb d_Mo_isSame_30 hl (by decide) rfl (fun ls hl => ?_)
      refine lo_Mo_isSame (p := p) (lx := lx) S hE hW hc hml wml wmx hk150 (fun sm hsm ls hl => ?_) (ml.length + 1) 0 0 1 _ (by omega) (Nat.zero_le _) nI_0.symm (Or.inl ⟨rfl, ⟨(nI_eq (by omega) (by omega)).mp h7, (nI_eq (by omega) (by omega)).mp h20⟩, lt_0⟩) (lv_sub hl [2, 3, 4, 1, 0] rfl)
      have hiff : ((p.1 = lx ∧ p.2.1.length = ml.length) ∧ ∀ j, j < ml.length → M 9 (12 * k + j) = M 5 j) ↔ (p.1 = lx ∧ p.2.1 = ml) := ⟨fun q => ⟨q.1.1, li_one (f := fun j => M 9 (12 * k + j)) (g := M 5) m9 hml q.1.2 (fun j hj => q.2 j (by omega))⟩, fun q => ⟨⟨q.1, by rw [q.2]⟩, fun j hj => (m9 j ml[j] (by rw [q.2]; exact List.getElem?_eq_getElem hj)).trans (hml j ml[j] (List.getElem?_eq_getElem hj)).symm⟩⟩
      refine lv_iload_n hx hb d_Mo_isSame_79 rfl (lv_at hl 1 rfl) ?_
      exact ct_iret S hr (bl_01 hsm) hlocks hW (⟨bl_i hsm hiff, rfl⟩) (Nat.le_refl _) (Nat.le_refl _) d_Mo_isSame_80
end
section
/-! THE REFERENCE: pattern. -/

theorem mo_p_set {Ps : List hy_P} {M M2 : Nat → Nat → Int32} {k : Nat} {p p2 : hy_P} (h : mo_p Ps M) (hk : Ps[k]? = some p) (wl : ∀ p ∈ Ps, p.2.2.length = p.2.1.length + 1 ∧ p.2.1.length ≤ 12) (e7 : M2 7 = M 7) (e8 : M2 8 = M 8) (e9 : M2 9 = M 9) (h1 : p2.1 = p.1) (h2 : p2.2.1 = p.2.1) (hd : ∀ (i : Nat) (x : Int32), p2.2.2[i]? = some x → M2 10 (13 * k + i) = x) (ho : ∀ q, (q < 13 * k ∨ 13 * k + 13 ≤ q) → M2 10 q = M 10 q) : mo_p (Ps.set k p2) M2 := by
  intro j q hj
  rw [e7, e8, e9]
  by_cases hjk : j = k
  · subst hjk
    have hl := (List.getElem?_eq_some_iff.mp hk).1
    rw [List.getElem?_set_self hl] at hj
    cases hj
    obtain ⟨g1, g2, g3, g4⟩ := h j p hk
    exact ⟨by rw [h1]; exact g1, by rw [h2]; exact g2, by rw [h2]; exact g3, hd⟩
  · rw [List.getElem?_set_ne (Ne.symm hjk)] at hj
    obtain ⟨g1, g2, g3, g4⟩ := h j q hj
    refine ⟨g1, g2, g3, fun i x hx => ?_⟩
    have hi := (List.getElem?_eq_some_iff.mp hx).1
    have hw := wl q (List.mem_of_getElem? hj)
    rw [ho _ (by omega)]
    exact g4 i x hx
theorem mo_p_add {Ps : List hy_P} {M M2 : Nat → Nat → Int32} {p : hy_P} (h : mo_p Ps M) (wl : ∀ p ∈ Ps, p.2.2.length = p.2.1.length + 1 ∧ p.2.1.length ≤ 12) (e7 : M2 7 = upd (M 7) Ps.length (nI p.1)) (e8 : M2 8 = upd (M 8) Ps.length (nI p.2.1.length)) (h9 : ∀ (i : Nat) (x : Int32), p.2.1[i]? = some x → M2 9 (12 * Ps.length + i) = x) (o9 : ∀ q, (q < 12 * Ps.length ∨ 12 * Ps.length + 12 ≤ q) → M2 9 q = M 9 q) (hd : ∀ (i : Nat) (x : Int32), p.2.2[i]? = some x → M2 10 (13 * Ps.length + i) = x) (ho : ∀ q, (q < 13 * Ps.length ∨ 13 * Ps.length + 13 ≤ q) → M2 10 q = M 10 q) : mo_p (Ps ++ [p]) M2 := by
  intro j q hj
  rw [e7, e8]
  by_cases hl : j < Ps.length
  · rw [List.getElem?_append_left hl] at hj
    obtain ⟨g1, g2, g3, g4⟩ := h j q hj
    have hw := wl q (List.mem_of_getElem? hj)
    refine ⟨by rw [pk_un (by omega)]; exact g1, by rw [pk_un (by omega)]; exact g2, fun i x hx => ?_, fun i x hx => ?_⟩
    · have hi := (List.getElem?_eq_some_iff.mp hx).1
      rw [o9 _ (by omega)]
      exact g3 i x hx
    · have hi := (List.getElem?_eq_some_iff.mp hx).1
      rw [ho _ (by omega)]
      exact g4 i x hx
  · rw [List.getElem?_append_right (by omega)] at hj
    have h1 : j - Ps.length < 1 := (List.getElem?_eq_some_iff.mp hj).1
    have h2 : j = Ps.length := by omega
    subst h2
    rw [Nat.sub_self] at hj
    cases hj
    exact ⟨pk_us, pk_us, h9, hd⟩
/-- a copy into a stretch, one place more -/
theorem cp_s {xs : List Int32} {g f : Nat → Int32} {o_ n i : Nat} {x : Int32} (h1 : ∀ (j : Nat) (y : Int32), j < i → xs[j]? = some y → g (o_ + j) = y) (h2 : ∀ q, (q < o_ ∨ o_ + n ≤ q) → g q = f q) (hx : xs[i]? = some x) (hi : i < n) : (∀ (j : Nat) (y : Int32), j < i + 1 → xs[j]? = some y → upd g (o_ + i) x (o_ + j) = y) ∧ ∀ q, (q < o_ ∨ o_ + n ≤ q) → upd g (o_ + i) x q = f q := by
  refine ⟨fun j y hj hy => ?_, fun q hq => ?_⟩
  · by_cases hji : j = i
    · subst hji
      rw [hx] at hy
      cases hy
      exact pk_us
    · rw [pk_un (by omega)]
      exact h1 j y (by omega) hy
  · rw [pk_un (by omega)]
    exact h2 q hq

set_option maxHeartbeats 4000000 in
set_option maxRecDepth 100000 in
/-- the search of pattern -/
theorem lo_Mo_patternA {p_ : Program} {l : Launch} {e_ : Env} {s : State} {m : MethodId} {args : Array Value} {below : List Frame} {meth : Method} {c_ : Code} {Q : State → Prop} {G : ev_G} {A : Nat → Prop} (S : CallFix p_ m c_ b_Mo_pattern 7 s args lw_good "HyphenRowsModel") (hE : ev_K G A s s.heap) {w : wd_M} {t : Nat} {C : Nat → Nat} {M : Nat → Nat → Int32} {ln tn en sn qn : Int32} {ml : List Int32} {Ps : List hy_P} {lx : Nat} {d : Int32} (hc : mo_c G w t C M ln (nI ml.length) (nI Ps.length) tn en sn qn) (hml : li_ ml (M 5)) (wml : ml.length ≤ 12) (wmx : ∀ x ∈ ml, 0 ≤ x) (hp0 : mo_p Ps M) (wP : Ps.length ≤ 150) (wps : (∀ p ∈ Ps, p.1 < 4 ∧ p.2.2.length = p.2.1.length + 1 ∧ 1 ≤ p.2.1.length ∧ p.2.1.length ≤ 12 ∧ ∀ x ∈ p.2.2, 0 ≤ x)) (hlx : lx < 4) (kk : ∀ k : Nat, k ≤ Ps.length → (∀ (j : Nat) (p : hy_P), j < k → Ps[j]? = some p → ¬ (p.1 = lx ∧ p.2.1 = ml)) → (k < Ps.length → ∃ p, Ps[k]? = some p ∧ (p.1 = lx ∧ p.2.1 = ml)) → ∀ xi : Int32, xi = nI k → ∀ (H : Heap) (locs : List Loc), wd_W G.1 ev_cl A w s.heap H locs → ∀ ls : Array Slot, lv_has ls 7 [(0, .ref t), (1, .int (nI lx)), (2, .int d), (3, .int xi)] → W p_ l e_ (rm_ 1 0 0) s m args below meth c_ H locs 0 0 Q (F0 m 55 ls [])) :
    ∀ (fu : Nat) (i : Nat) (xi : Int32) (H : Heap) (locs : List Loc) (ls : Array Slot), Ps.length < i + fu → i ≤ Ps.length → xi = nI i → (∀ (j : Nat) (p : hy_P), j < i → Ps[j]? = some p → ¬ (p.1 = lx ∧ p.2.1 = ml)) → wd_W G.1 ev_cl A w s.heap H locs → lv_has ls 7 [(0, .ref t), (1, .int (nI lx)), (2, .int d), (3, .int xi)] → W p_ l e_ (rm_ 1 0 0) s m args below meth c_ H locs 0 0 Q (F0 m 32 ls []) := by
  have hx := S.1
  have hb := S.2.1
  have hK := hE.1
  intro fu
  induction fu with
  | zero =>
    intro i xi H locs ls hfu hi exi hinv hW hl
    exact absurd hfu (by omega)
  | succ fu ih =>
    intro i xi H locs ls hfu hi exi hinv hW hl
    obtain ⟨ht0, -⟩ := id hc
    refine lv_iload_n hx hb d_Mo_pattern_32 rfl (lv_at hl 3 rfl) ?_
    refine lv_aload_n hx hb d_Mo_pattern_33 rfl (lv_at hl 0 rfl) ?_
    refine wd_get S i_Mo hK hW ht0 rfl 9 (by decide) k_Mo_80 rfl rfl d_Mo_pattern_34 ?_
    refine lv_icmp_ge (tgt := 55) hx hb d_Mo_pattern_37 (by decide) (fun h37 => ?_) (fun h37 => ?_)
    · exact kk i hi hinv (fun q => absurd q (by rw [exi] at h37; have := (nI_leI (by omega) (by omega)).mp h37; omega)) xi exi H locs hW ls (lv_sub hl [0, 1, 2, 3] rfl)
    · have hlt : i < Ps.length := by rw [exi] at h37; exact Nat.lt_of_not_le (fun q => h37 (nI_le q (by omega)))
      obtain ⟨p, hpi⟩ : ∃ p, Ps[i]? = some p := ⟨_, List.getElem?_eq_getElem hlt⟩
      have hpm := wps p (List.mem_of_getElem? hpi)
      refine lv_aload_n hx hb d_Mo_pattern_40 rfl (lv_at hl 0 rfl) ?_
      refine lv_iload_n hx hb d_Mo_pattern_41 rfl (lv_at hl 3 rfl) ?_
      rw [exi]
      refine lv_iload_n hx hb d_Mo_pattern_42 rfl (lv_at hl 1 rfl) ?_
      refine ct_goi hW (ct_runV (As := [.int (nI i), .int (nI lx)]) (rest := []) (q := (R_Mo, F_Mo, 25)) S hE hW (c_Mo_isSame l G _ _ t C M ln (nI Ps.length) tn en sn qn ml Ps i lx p hc hml wml wmx hpi hp0 (by omega) ⟨hpm.1, hpm.2.2.1, hpm.2.2.2.1⟩ hlx) ht0 rfl kc_Mo_isSame kz_Mo k_Mo_83 ki_Mo_isSame kv_Mo_isSame kd_Mo_isSame ⟨Nat.le_of_ble_eq_true rfl, Nat.le_of_ble_eq_true rfl⟩ hl.1 (Nat.le_of_ble_eq_true rfl) d_Mo_pattern_43 ⟨Nat.le_of_ble_eq_true rfl, Nat.le_of_ble_eq_true rfl⟩) (fun v_3 u_1 H locs hp_2 hW => ?_)
      obtain ⟨hv, hu_4⟩ := hp_2
      rw [hu_4] at hW
      refine lv_if_ne (tgt := 55) hx hb d_Mo_pattern_46 (by decide) (fun h46 => ?_) (fun h46 => ?_)
      · exact kk i hi hinv (fun _ => ⟨p, hpi, bl_t hv h46⟩) xi exi _ _ hW ls (lv_sub hl [0, 1, 2, 3] rfl)
      · obtain ⟨xi2, exi2⟩ : ∃ y : Int32, y = xi + 1 := ⟨_, rfl⟩
        refine lv_iinc (v := xi2) (lv' := [(3, .int xi2), (0, .ref t), (1, .int (nI lx)), (2, .int d)]) hx hb d_Mo_pattern_49 hl (k := 3) rfl (by rw [exi2]; rfl) (by decide) rfl (fun ls hl => ?_)
        refine lv_goto (tgt := 32) hx hb d_Mo_pattern_52 (by decide) ?_
        exact ih (i + 1) xi2 _ _ _ (by omega) hlt (by rw [exi2, exi]; exact nI_1 i) (lt_inv hinv hpi (bl_f hv h46)) hW (lv_sub hl [1, 2, 3, 0] rfl)

set_option maxHeartbeats 4000000 in
set_option maxRecDepth 100000 in
/-- a copy -/
theorem lo_Mo_patternB {p_ : Program} {l : Launch} {e_ : Env} {s : State} {m : MethodId} {args : Array Value} {below : List Frame} {meth : Method} {c_ : Code} {Q : State → Prop} {G : ev_G} {A : Nat → Prop} (S : CallFix p_ m c_ b_Mo_pattern 7 s args lw_good "HyphenRowsModel") (hE : ev_K G A s s.heap) {w : wd_M} {t k n : Nat} {C : Nat → Nat} {M : Nat → Nat → Int32} {ln mk pn tn en sn qn : Int32} {tg : Nat → Nat} {ml : List Int32} (hc : mo_c G w t C M ln mk pn tn en sn qn) (hT : mo_g tg t C) (hsrc : li_ ml (M 5)) (hn : ml.length = n) (wn : n ≤ 12) (hk150 : k < 150) (kk : ∀ (g : Nat → Int32) (w1 : wd_M) (H : Heap) (locs : List Loc), (∀ (j : Nat) (y : Int32), ml[j]? = some y → g (12 * k + j) = y) → (∀ q, (q < 12 * k ∨ 12 * k + 12 ≤ q) → g q = M 9 q) → w1 = va_up w (C 9) (some (.inl (G.2.1 0, 1800, .inl g))) → wd_W G.1 ev_cl A w1 s.heap H locs → ∀ ls : Array Slot, lv_has ls 7 [(0, .ref t), (3, .int (nI k)), (4, .int (nI n))] → W p_ l e_ (rm_ 1 0 0) s m args below meth c_ H locs 0 0 Q (F0 m 164 ls [])) :
    ∀ (fu : Nat) (i : Nat) (xi : Int32) (g : Nat → Int32) (w1 : wd_M) (H : Heap) (locs : List Loc) (ls : Array Slot), ml.length < i + fu → i ≤ ml.length → xi = nI i → (∀ (j : Nat) (y : Int32), j < i → ml[j]? = some y → g (12 * k + j) = y) → (∀ q, (q < 12 * k ∨ 12 * k + 12 ≤ q) → g q = M 9 q) → w1 = va_up w (C 9) (some (.inl (G.2.1 0, 1800, .inl g))) → wd_W G.1 ev_cl A w1 s.heap H locs → lv_has ls 7 [(0, .ref t), (3, .int (nI k)), (4, .int (nI n)), (6, .int xi)] → W p_ l e_ (rm_ 1 0 0) s m args below meth c_ H locs 0 0 Q (F0 m 132 ls []) := by
  have hx := S.1
  have hb := S.2.1
  have hK := hE.1
  intro fu
  induction fu with
  | zero =>
    intro i xi g w1 H locs ls hfu hi exi h1 h2 ew hW hl
    exact absurd hfu (by omega)
  | succ fu ih =>
    intro i xi g w1 H locs ls hfu hi exi h1 h2 ew hW hl
    obtain ⟨ht0, -, -, -, -, -, c5, -, -, -, c9, -⟩ := id hc
    have ht0 := wd_keep ew (wd_ne ht0 c9 (by simp)) ht0
    have c5 := wd_keep ew (tg_ne (tg := tg) (by rw [hT.2 5 (by omega), hT.2 9 (by omega)]; omega)) c5
    have c9 := wd_here ew
    refine lv_iload hx hb d_Mo_pattern_132 (lv_at hl 3 rfl) ?_
    refine lv_iload hx hb d_Mo_pattern_134 (lv_at hl 2 rfl) ?_
    refine lv_icmp_ge (tgt := 164) hx hb d_Mo_pattern_136 (by decide) (fun hz => ?_) (fun hz => ?_)
    · have hin9 : i = ml.length := by rw [exi] at hz; have := (nI_leI (by omega) (by omega)).mp hz; omega
      exact kk g w1 H locs (fun j y hy => h1 j y (by have := (List.getElem?_eq_some_iff.mp hy).1; omega) hy) h2 ew hW ls (lv_sub hl [0, 1, 2] rfl)
    · have hlt : i < ml.length := by rw [exi] at hz; exact Nat.lt_of_not_le (fun q => hz (nI_le (by omega) (by omega)))
      have hin : vp_in xi 12 := by rw [exi]; exact vp_in_nI (by omega) (by omega)
      have hcl : xi.toNatClampNeg = i := by rw [exi]; exact nI_clamp (by omega)
      refine lv_aload_n hx hb d_Mo_pattern_139 rfl (lv_at hl 0 rfl) ?_
      refine wd_get S i_Mo hK hW ht0 rfl 13 (by decide) k_Mo_38 rfl rfl d_Mo_pattern_140 ?_
      refine lv_bipush (v := 12) hx hb d_Mo_pattern_143 (by decide) ?_
      refine lv_iload_n hx hb d_Mo_pattern_145 rfl (lv_at hl 1 rfl) ?_
      refine lv_imul hx hb d_Mo_pattern_146 ?_
      refine lv_iload hx hb d_Mo_pattern_147 (lv_at hl 3 rfl) ?_
      refine lv_iadd hx hb d_Mo_pattern_149 ?_
      refine lv_aload_n hx hb d_Mo_pattern_150 rfl (lv_at hl 0 rfl) ?_
      refine wd_get S i_Mo hK hW ht0 rfl 7 (by decide) k_Mo_26 rfl rfl d_Mo_pattern_151 ?_
      refine lv_iload hx hb d_Mo_pattern_154 (lv_at hl 3 rfl) ?_
      rw [show (12 : Int32) * nI k + xi = nI (12 * k + i) from by rw [exi]; exact ix_12 k i]
      refine wd_iald S hK hW 0 c5 rfl hin d_Mo_pattern_156 ?_
      rw [hcl, hsrc i ml[i] (List.getElem?_eq_getElem hlt)]
      refine wd_iast S hK hW 0 c9 rfl (vp_in_nI (by omega) (by omega)) d_Mo_pattern_157 (fun H locs w_1 ew_1 hW => ?_)
      have ht0 := wd_keep ew_1 (wd_ne ht0 c9 (by simp)) ht0
      have c5 := wd_keep ew_1 (tg_ne (tg := tg) (by rw [hT.2 5 (by omega), hT.2 9 (by omega)]; omega)) c5
      have c9 : w_1 (C 9) = some (.inl (G.2.1 0, 1800, .inl (upd g ((nI (12 * k + i)) : Int32).toNatClampNeg (ml[i])))) := wd_here ew_1
      have hcp := cp_s h1 h2 (List.getElem?_eq_getElem hlt) (show i < 12 by omega)
      obtain ⟨xi2, exi2⟩ : ∃ y : Int32, y = xi + 1 := ⟨_, rfl⟩
      refine lv_iinc (v := xi2) (lv' := [(6, .int xi2), (0, .ref t), (3, .int (nI k)), (4, .int (nI n))]) hx hb d_Mo_pattern_158 hl (k := 3) rfl (by rw [exi2]; rfl) (by decide) rfl (fun ls hl => ?_)
      refine lv_goto (tgt := 132) hx hb d_Mo_pattern_161 (by decide) ?_
      exact ih (i + 1) xi2 (upd g (nI (12 * k + i)).toNatClampNeg ml[i]) _ _ _ _ (by omega) (by omega) (by rw [exi2, exi]; exact nI_1 i) (by rw [nI_clamp (by omega)]; exact hcp.1) (by rw [nI_clamp (by omega)]; exact hcp.2) (by rw [ew_1, ew]; exact bx_uu _ _ _ _) hW (lv_sub hl [1, 2, 3, 0] rfl)

set_option maxHeartbeats 4000000 in
set_option maxRecDepth 100000 in
/-- a copy -/
theorem lo_Mo_patternC {p_ : Program} {l : Launch} {e_ : Env} {s : State} {m : MethodId} {args : Array Value} {below : List Frame} {meth : Method} {c_ : Code} {Q : State → Prop} {G : ev_G} {A : Nat → Prop} (S : CallFix p_ m c_ b_Mo_pattern 7 s args lw_good "HyphenRowsModel") (hE : ev_K G A s s.heap) {w : wd_M} {t k n : Nat} {C : Nat → Nat} {M : Nat → Nat → Int32} {ln mk pn tn en sn qn : Int32} {tg : Nat → Nat} {md : List Int32} (hc : mo_c G w t C M ln mk pn tn en sn qn) (hT : mo_g tg t C) (hsrc : li_ md (M 6)) (hn : md.length = n + 1) (wn : n ≤ 12) (hk150 : k < 150) (kk : ∀ (g : Nat → Int32) (w1 : wd_M) (H : Heap) (locs : List Loc), (∀ (j : Nat) (y : Int32), md[j]? = some y → g (13 * k + j) = y) → (∀ q, (q < 13 * k ∨ 13 * k + 13 ≤ q) → g q = M 10 q) → w1 = va_up w (C 10) (some (.inl (G.2.1 0, 1950, .inl g))) → wd_W G.1 ev_cl A w1 s.heap H locs → ∀ ls : Array Slot, lv_has ls 7 [(0, .ref t), (3, .int (nI k)), (4, .int (nI n))] → W p_ l e_ (rm_ 1 0 0) s m args below meth c_ H locs 0 0 Q (F0 m 220 ls [])) :
    ∀ (fu : Nat) (i : Nat) (xi : Int32) (g : Nat → Int32) (w1 : wd_M) (H : Heap) (locs : List Loc) (ls : Array Slot), md.length < i + fu → i ≤ md.length → xi = nI i → (∀ (j : Nat) (y : Int32), j < i → md[j]? = some y → g (13 * k + j) = y) → (∀ q, (q < 13 * k ∨ 13 * k + 13 ≤ q) → g q = M 10 q) → w1 = va_up w (C 10) (some (.inl (G.2.1 0, 1950, .inl g))) → wd_W G.1 ev_cl A w1 s.heap H locs → lv_has ls 7 [(0, .ref t), (3, .int (nI k)), (4, .int (nI n)), (6, .int xi)] → W p_ l e_ (rm_ 1 0 0) s m args below meth c_ H locs 0 0 Q (F0 m 188 ls []) := by
  have hx := S.1
  have hb := S.2.1
  have hK := hE.1
  intro fu
  induction fu with
  | zero =>
    intro i xi g w1 H locs ls hfu hi exi h1 h2 ew hW hl
    exact absurd hfu (by omega)
  | succ fu ih =>
    intro i xi g w1 H locs ls hfu hi exi h1 h2 ew hW hl
    obtain ⟨ht0, -, -, -, -, -, -, c6, -, -, -, c10, -⟩ := id hc
    have ht0 := wd_keep ew (wd_ne ht0 c10 (by simp)) ht0
    have c6 := wd_keep ew (tg_ne (tg := tg) (by rw [hT.2 6 (by omega), hT.2 10 (by omega)]; omega)) c6
    have c10 := wd_here ew
    refine lv_iload hx hb d_Mo_pattern_188 (lv_at hl 3 rfl) ?_
    refine lv_iload hx hb d_Mo_pattern_190 (lv_at hl 2 rfl) ?_
    refine lv_icmp_gt (tgt := 220) hx hb d_Mo_pattern_192 (by decide) (fun hz => ?_) (fun hz => ?_)
    · have hin9 : i = md.length := by rw [exi] at hz; have h9 : ¬ i ≤ n := fun q => Int32.not_lt.mpr (nI_le q (by omega)) hz; omega
      exact kk g w1 H locs (fun j y hy => h1 j y (by have := (List.getElem?_eq_some_iff.mp hy).1; omega) hy) h2 ew hW ls (lv_sub hl [0, 1, 2] rfl)
    · have hlt : i < md.length := by rw [exi] at hz; have h9 : i ≤ n := (nI_leI (by omega) (by omega)).mp (Int32.not_lt.mp hz); omega
      have hin : vp_in xi 13 := by rw [exi]; exact vp_in_nI (by omega) (by omega)
      have hcl : xi.toNatClampNeg = i := by rw [exi]; exact nI_clamp (by omega)
      refine lv_aload_n hx hb d_Mo_pattern_195 rfl (lv_at hl 0 rfl) ?_
      refine wd_get S i_Mo hK hW ht0 rfl 14 (by decide) k_Mo_41 rfl rfl d_Mo_pattern_196 ?_
      refine lv_bipush (v := 13) hx hb d_Mo_pattern_199 (by decide) ?_
      refine lv_iload_n hx hb d_Mo_pattern_201 rfl (lv_at hl 1 rfl) ?_
      refine lv_imul hx hb d_Mo_pattern_202 ?_
      refine lv_iload hx hb d_Mo_pattern_203 (lv_at hl 3 rfl) ?_
      refine lv_iadd hx hb d_Mo_pattern_205 ?_
      refine lv_aload_n hx hb d_Mo_pattern_206 rfl (lv_at hl 0 rfl) ?_
      refine wd_get S i_Mo hK hW ht0 rfl 8 (by decide) k_Mo_29 rfl rfl d_Mo_pattern_207 ?_
      refine lv_iload hx hb d_Mo_pattern_210 (lv_at hl 3 rfl) ?_
      rw [show (13 : Int32) * nI k + xi = nI (13 * k + i) from by rw [exi]; exact ix_13 k i]
      refine wd_iald S hK hW 0 c6 rfl hin d_Mo_pattern_212 ?_
      rw [hcl, hsrc i md[i] (List.getElem?_eq_getElem hlt)]
      refine wd_iast S hK hW 0 c10 rfl (vp_in_nI (by omega) (by omega)) d_Mo_pattern_213 (fun H locs w_1 ew_1 hW => ?_)
      have ht0 := wd_keep ew_1 (wd_ne ht0 c10 (by simp)) ht0
      have c6 := wd_keep ew_1 (tg_ne (tg := tg) (by rw [hT.2 6 (by omega), hT.2 10 (by omega)]; omega)) c6
      have c10 : w_1 (C 10) = some (.inl (G.2.1 0, 1950, .inl (upd g ((nI (13 * k + i)) : Int32).toNatClampNeg (md[i])))) := wd_here ew_1
      have hcp := cp_s h1 h2 (List.getElem?_eq_getElem hlt) (show i < 13 by omega)
      obtain ⟨xi2, exi2⟩ : ∃ y : Int32, y = xi + 1 := ⟨_, rfl⟩
      refine lv_iinc (v := xi2) (lv' := [(6, .int xi2), (0, .ref t), (3, .int (nI k)), (4, .int (nI n))]) hx hb d_Mo_pattern_214 hl (k := 3) rfl (by rw [exi2]; rfl) (by decide) rfl (fun ls hl => ?_)
      refine lv_goto (tgt := 188) hx hb d_Mo_pattern_217 (by decide) ?_
      exact ih (i + 1) xi2 (upd g (nI (13 * k + i)).toNatClampNeg md[i]) _ _ _ _ (by omega) (by omega) (by rw [exi2, exi]; exact nI_1 i) (by rw [nI_clamp (by omega)]; exact hcp.1) (by rw [nI_clamp (by omega)]; exact hcp.2) (by rw [ew_1, ew]; exact bx_uu _ _ _ _) hW (lv_sub hl [1, 2, 3, 0] rfl)

set_option maxHeartbeats 4000000 in
set_option maxRecDepth 100000 in
/-- the reference: pattern -/
theorem c_Mo_pattern (l : Launch) (G : ev_G) (w : wd_M) (sz : Nat) (tg : Nat → Nat) (t : Nat) (Ls : List hy_L) (Ps : List hy_P) (Ts : List hy_T) (ml md wd : List Int32) (pl : List Nat) (x d : Int32) (h : mo_ G w tg t Ls Ps Ts ml md wd pl) (hwf : hy_wf Ls Ps Ts ml md wd pl) : ct_i l y_Mo_pattern b_Mo_pattern 7 (some FieldType.int) (rm_ 1 0 0) G w sz [.ref t, .int x, .int d] (mq_ G w tg t (sp_pattern x d (Ls, Ps, Ts, ml, md, wd, pl))) := by
  refine ct_enter (by decide +kernel) (Nat.le_of_ble_eq_true rfl) ?_
  intro p_ e_ s m below meth c_ hsz S hr hlocks hname hE hW ls hl
  have S : CallFix p_ m c_ b_Mo_pattern 7 s _ lw_good "HyphenRowsModel" := S
  have hx := S.1
  have hb := S.2.1
  have hK := hE.1
  have hl : lv_has ls 7 [(0, .ref t), (1, .int x), (2, .int d)] := hl
  obtain ⟨C, M, hc, hT, hl0, hp0, hq0, hml, hmd, hwd, hpl⟩ := id h
  obtain ⟨ht0, c0, c1, c2, c3, c4, c5, c6, c7, c8, c9, c10, c11, c12, c13, c14, c15, c16, c17⟩ := id hc
  obtain ⟨wL, wP, wT, wm, wml, wwd, wpl, wtot, wmx, wdx, wws, wplx, wlg, wps, wts⟩ := id hwf
  have hmk : mk_ w w tg := mk_rf
  refine lv_aload_n hx hb d_Mo_pattern_0 rfl (lv_at hl 0 rfl) ?_
  refine lv_iload_n hx hb d_Mo_pattern_1 rfl (lv_at hl 1 rfl) ?_
  refine ct_goi hW (ct_runV (As := [.int x]) (rest := []) (q := (R_Mo, F_Mo, 25)) S hE hW (c_Mo_isLanguage l G _ _ t C M (nI ml.length) (nI Ps.length) (nI (hy_tot Ps)) (nI Ts.length) (nI wd.length) (nI pl.length) Ls.length x hc) ht0 rfl kc_Mo_isLanguage kz_Mo k_Mo_69 ki_Mo_isLanguage kv_Mo_isLanguage kd_Mo_isLanguage ⟨Nat.le_of_ble_eq_true rfl, Nat.le_of_ble_eq_true rfl⟩ hl.1 (Nat.le_of_ble_eq_true rfl) d_Mo_pattern_2 ⟨Nat.le_of_ble_eq_true rfl, Nat.le_of_ble_eq_true rfl⟩) (fun v_3 u_1 H locs hp_2 hW => ?_)
  obtain ⟨hv, hu_4⟩ := hp_2
  rw [hu_4] at hW
  refine lv_if_eq (tgt := 18) hx hb d_Mo_pattern_5 (by decide) (fun h5 => ?_) (fun h5 => ?_)
  · refine lv_iconst (v := -1) hx hb d_Mo_pattern_18 (by decide) ?_
    exact ct_iret S hr rfl hlocks hW (⟨_, Or.inl ⟨fun q => bl_f hv h5 q.1, rfl, rfl⟩, h, mk_rf⟩) (Nat.le_of_ble_eq_true rfl) (Nat.le_of_ble_eq_true rfl) d_Mo_pattern_19
  · refine lv_iload_n hx hb d_Mo_pattern_8 rfl (lv_at hl 2 rfl) ?_
    refine lv_iconst (v := 0) hx hb d_Mo_pattern_9 (by decide) ?_
    refine lv_bipush (v := 9) hx hb d_Mo_pattern_10 (by decide) ?_
    refine ct_goi hW (ct_runS (As := [.int d, .int 0, .int 9]) (rest := []) S hE hW (c_Mo_in l G _ _ d 0 9) kc_Mo_in kz_Mo k_Mo_73 ks_Mo_in kd_Mo_in ⟨Nat.le_of_ble_eq_true rfl, Nat.le_of_ble_eq_true rfl⟩ hl.1 (Nat.le_of_ble_eq_true rfl) d_Mo_pattern_12 ⟨Nat.le_of_ble_eq_true rfl, Nat.le_of_ble_eq_true rfl⟩) (fun v_7 u_5 H locs hp_6 hW => ?_)
    obtain ⟨hv2, hu_8⟩ := hp_6
    rw [hu_8] at hW
    refine lv_if_ne (tgt := 20) hx hb d_Mo_pattern_15 (by decide) (fun h15 => ?_) (fun h15 => ?_)
    · have hnm0 := bl_t hv h5
      have hok : nm_ x Ls.length ∧ ok_d d := ⟨hnm0, bl_t hv2 h15⟩
      obtain ⟨i, hil, rfl⟩ := nm_of hnm0 (by omega)
      refine lv_aload_n hx hb d_Mo_pattern_20 rfl (lv_at hl 0 rfl) ?_
      refine wd_get S i_Mo hK hW ht0 rfl 8 (by decide) k_Mo_29 rfl rfl d_Mo_pattern_21 ?_
      refine lv_aload_n hx hb d_Mo_pattern_24 rfl (lv_at hl 0 rfl) ?_
      refine wd_get S i_Mo hK hW ht0 rfl 6 (by decide) k_Mo_77 rfl rfl d_Mo_pattern_25 ?_
      refine lv_iload_n hx hb d_Mo_pattern_28 rfl (lv_at hl 2 rfl) ?_
      refine wd_iast S hK hW 0 c6 rfl (vp_in_nI (by omega) (by omega)) d_Mo_pattern_29 (fun H locs w_9 ew_9 hW => ?_)
      have hmk := mk_up hmk c6 ew_9 (by rw [hT.2 6 (by omega)]; omega)
      have ht0 := wd_keep ew_9 (wd_ne ht0 c6 (by simp)) ht0
      have c0 := wd_keep ew_9 (tg_ne (tg := tg) (by rw [hT.2 0 (by omega), hT.2 6 (by omega)]; omega)) c0
      have c1 := wd_keep ew_9 (tg_ne (tg := tg) (by rw [hT.2 1 (by omega), hT.2 6 (by omega)]; omega)) c1
      have c2 := wd_keep ew_9 (tg_ne (tg := tg) (by rw [hT.2 2 (by omega), hT.2 6 (by omega)]; omega)) c2
      have c3 := wd_keep ew_9 (tg_ne (tg := tg) (by rw [hT.2 3 (by omega), hT.2 6 (by omega)]; omega)) c3
      have c4 := wd_keep ew_9 (tg_ne (tg := tg) (by rw [hT.2 4 (by omega), hT.2 6 (by omega)]; omega)) c4
      have c5 := wd_keep ew_9 (tg_ne (tg := tg) (by rw [hT.2 5 (by omega), hT.2 6 (by omega)]; omega)) c5
      have c7 := wd_keep ew_9 (tg_ne (tg := tg) (by rw [hT.2 7 (by omega), hT.2 6 (by omega)]; omega)) c7
      have c8 := wd_keep ew_9 (tg_ne (tg := tg) (by rw [hT.2 8 (by omega), hT.2 6 (by omega)]; omega)) c8
      have c9 := wd_keep ew_9 (tg_ne (tg := tg) (by rw [hT.2 9 (by omega), hT.2 6 (by omega)]; omega)) c9
      have c10 := wd_keep ew_9 (tg_ne (tg := tg) (by rw [hT.2 10 (by omega), hT.2 6 (by omega)]; omega)) c10
      have c11 := wd_keep ew_9 (tg_ne (tg := tg) (by rw [hT.2 11 (by omega), hT.2 6 (by omega)]; omega)) c11
      have c12 := wd_keep ew_9 (tg_ne (tg := tg) (by rw [hT.2 12 (by omega), hT.2 6 (by omega)]; omega)) c12
      have c13 := wd_keep ew_9 (tg_ne (tg := tg) (by rw [hT.2 13 (by omega), hT.2 6 (by omega)]; omega)) c13
      have c14 := wd_keep ew_9 (tg_ne (tg := tg) (by rw [hT.2 14 (by omega), hT.2 6 (by omega)]; omega)) c14
      have c15 := wd_keep ew_9 (tg_ne (tg := tg) (by rw [hT.2 15 (by omega), hT.2 6 (by omega)]; omega)) c15
      have c16 := wd_keep ew_9 (tg_ne (tg := tg) (by rw [hT.2 16 (by omega), hT.2 6 (by omega)]; omega)) c16
      have c17 := wd_keep ew_9 (tg_ne (tg := tg) (by rw [hT.2 17 (by omega), hT.2 6 (by omega)]; omega)) c17
      have c6 : w_9 (C 6) = some (.inl (G.2.1 0, 13, .inl (upd (M 6) ((nI ml.length) : Int32).toNatClampNeg d))) := wd_here ew_9
      rw [nI_clamp (by omega)] at c6
      have hc1 : mo_c G w_9 t C (fun k9 => if k9 = 6 then upd (M 6) ml.length d else M k9) (nI Ls.length) (nI ml.length) (nI Ps.length) (nI (hy_tot Ps)) (nI Ts.length) (nI wd.length) (nI pl.length) := ⟨ht0, c0, c1, c2, c3, c4, c5, c6, c7, c8, c9, c10, c11, c12, c13, c14, c15, c16, c17⟩
      have hmd2 : li_ (md ++ [d]) (upd (M 6) ml.length d) := by rw [wm]; exact li_put hmd
      refine lv_iconst (v := 0) hx hb d_Mo_pattern_30 (by decide) ?_
      refine lv_istore_n (lv' := [(3, .int 0), (0, .ref t), (1, .int (nI i)), (2, .int d)]) hx hb d_Mo_pattern_31 rfl hl (by decide) rfl (fun ls hl => ?_)
      refine lo_Mo_patternA (M := (fun k9 => if k9 = 6 then upd (M 6) ml.length d else M k9)) (d := d) (lx := i) (ml := ml) (Ps := Ps) S hE hc1 hml wml wmx hp0 wP wps (by omega) (fun k hk hno hyes xi exi H locs hW ls hl => ?_) (Ps.length + 1) 0 0 _ _ _ (by omega) (Nat.zero_le _) nI_0.symm (fun j p hj => absurd hj (Nat.not_lt_zero j)) hW (lv_sub hl [1, 2, 3, 0] rfl)
      rw [exi] at hl
      refine lv_aload_n hx hb d_Mo_pattern_55 rfl (lv_at hl 0 rfl) ?_
      refine wd_get S i_Mo hK hW ht0 rfl 6 (by decide) k_Mo_77 rfl rfl d_Mo_pattern_56 ?_
      refine lv_topi (fun nn enn => ?_)
      refine lv_istore (lv' := [(4, .int nn), (0, .ref t), (1, .int (nI i)), (2, .int d), (3, .int (nI k))]) hx hb d_Mo_pattern_59 hl (by decide) rfl (fun ls hl => ?_)
      rw [enn] at hl
      refine lv_aload_n hx hb d_Mo_pattern_61 rfl (lv_at hl 1 rfl) ?_
      refine ct_goi hW (ct_runV (As := []) (rest := []) (q := (R_Mo, F_Mo, 25)) S hE hW (c_Mo_isPattern l G _ _ t C (fun k9 => if k9 = 6 then upd (M 6) ml.length d else M k9) (nI Ls.length) (nI Ps.length) (nI (hy_tot Ps)) (nI Ts.length) (nI wd.length) (nI pl.length) ml hc1 hml wml wmx) ht0 rfl kc_Mo_isPattern kz_Mo k_Mo_87 ki_Mo_isPattern kv_Mo_isPattern kd_Mo_isPattern ⟨Nat.le_of_ble_eq_true rfl, Nat.le_of_ble_eq_true rfl⟩ hl.1 (Nat.le_of_ble_eq_true rfl) d_Mo_pattern_62 ⟨Nat.le_of_ble_eq_true rfl, Nat.le_of_ble_eq_true rfl⟩) (fun v_12 u_10 H locs hp_11 hW => ?_)
      obtain ⟨hvp, hu_13⟩ := hp_11
      rw [hu_13] at hW
      refine lv_istore (lv' := [(5, .int v_12), (4, .int (nI ml.length)), (0, .ref t), (1, .int (nI i)), (2, .int d), (3, .int (nI k))]) hx hb d_Mo_pattern_65 hl (by decide) rfl (fun ls hl => ?_)
      refine lv_aload_n hx hb d_Mo_pattern_67 rfl (lv_at hl 2 rfl) ?_
      refine lv_iconst (v := 0) hx hb d_Mo_pattern_68 (by decide) ?_
      refine wd_put S i_Mo t_Mo t_Mo_ok n_Mo hK hW ht0 rfl 6 (by decide) k_Mo_77 rfl rfl rfl rfl (Nat.le_of_ble_eq_true rfl) d_Mo_pattern_69 (fun H locs w_14 ew_14 hW => ?_)
      have hmk := mk_up hmk ht0 ew_14 (by rw [hT.1]; omega)
      have c0 := wd_keep ew_14 (wd_ne c0 ht0 (by simp)) c0
      have c1 := wd_keep ew_14 (wd_ne c1 ht0 (by simp)) c1
      have c2 := wd_keep ew_14 (wd_ne c2 ht0 (by simp)) c2
      have c3 := wd_keep ew_14 (wd_ne c3 ht0 (by simp)) c3
      have c4 := wd_keep ew_14 (wd_ne c4 ht0 (by simp)) c4
      have c5 := wd_keep ew_14 (wd_ne c5 ht0 (by simp)) c5
      have c6 := wd_keep ew_14 (wd_ne c6 ht0 (by simp)) c6
      have c7 := wd_keep ew_14 (wd_ne c7 ht0 (by simp)) c7
      have c8 := wd_keep ew_14 (wd_ne c8 ht0 (by simp)) c8
      have c9 := wd_keep ew_14 (wd_ne c9 ht0 (by simp)) c9
      have c10 := wd_keep ew_14 (wd_ne c10 ht0 (by simp)) c10
      have c11 := wd_keep ew_14 (wd_ne c11 ht0 (by simp)) c11
      have c12 := wd_keep ew_14 (wd_ne c12 ht0 (by simp)) c12
      have c13 := wd_keep ew_14 (wd_ne c13 ht0 (by simp)) c13
      have c14 := wd_keep ew_14 (wd_ne c14 ht0 (by simp)) c14
      have c15 := wd_keep ew_14 (wd_ne c15 ht0 (by simp)) c15
      have c16 := wd_keep ew_14 (wd_ne c16 ht0 (by simp)) c16
      have c17 := wd_keep ew_14 (wd_ne c17 ht0 (by simp)) c17
      have ht0 : w_14 t = some (.inr (5, [.int (nI Ls.length), .ref (C 0), .ref (C 1), .ref (C 2), .ref (C 3), .ref (C 4), .int 0, .ref (C 5), .ref (C 6), .int (nI Ps.length), .int (nI (hy_tot Ps)), .ref (C 7), .ref (C 8), .ref (C 9), .ref (C 10), .int (nI Ts.length), .ref (C 11), .ref (C 12), .ref (C 13), .ref (C 14), .int (nI wd.length), .ref (C 15), .ref (C 16), .int (nI pl.length), .ref (C 17)])) := wd_here ew_14
      refine lv_iload hx hb d_Mo_pattern_72 (lv_at hl 0 rfl) ?_
      refine lv_if_ne (tgt := 80) hx hb d_Mo_pattern_74 (by decide) (fun h74 => ?_) (fun h74 => ?_)
      · have hpat := bl_t hvp h74
        refine lv_iload_n hx hb d_Mo_pattern_80 rfl (lv_at hl 5 rfl) ?_
        refine lv_aload_n hx hb d_Mo_pattern_81 rfl (lv_at hl 2 rfl) ?_
        refine wd_get S i_Mo hK hW ht0 rfl 9 (by decide) k_Mo_80 rfl rfl d_Mo_pattern_82 ?_
        refine lv_icmp_ne (tgt := 185) hx hb d_Mo_pattern_85 (by decide) (fun h85 => ?_) (fun h85 => ?_)
        · have hkl : k < Ps.length := Nat.lt_of_le_of_ne hk (fun q => h85 (by rw [q]))
          obtain ⟨p, hpk, hpl1, hpm⟩ := hyes hkl
          refine lv_iconst (v := 0) hx hb d_Mo_pattern_185 (by decide) ?_
          refine lv_istore (lv' := [(6, .int 0), (5, .int v_12), (4, .int (nI ml.length)), (0, .ref t), (1, .int (nI i)), (2, .int d), (3, .int (nI k))]) hx hb d_Mo_pattern_186 hl (by decide) rfl (fun ls hl => ?_)
          have hcB : mo_c G w_14 t C (fun k9 => if k9 = 6 then upd (M 6) ml.length d else M k9) (nI Ls.length) 0 (nI Ps.length) (nI (hy_tot Ps)) (nI Ts.length) (nI wd.length) (nI pl.length) := ⟨ht0, c0, c1, c2, c3, c4, c5, c6, c7, c8, c9, c10, c11, c12, c13, c14, c15, c16, c17⟩
          refine lo_Mo_patternC (M := (fun k9 => if k9 = 6 then upd (M 6) ml.length d else M k9)) (md := md ++ [d]) (n := ml.length) (k := k) S hE hcB hT hmd2 (by rw [List.length_append, wm]; rfl) wml (by omega) (fun g10 w10 H locs g1 g2 ew hW ls hl => ?_) (ml.length + 2) 0 0 (M 10) _ _ _ _ (by rw [List.length_append, ← wm]; show ml.length + 1 < _; omega) (Nat.zero_le _) nI_0.symm (fun j y hj => absurd hj (Nat.not_lt_zero j)) (fun _ _ => rfl) (up_id c10) hW (lv_sub hl [3, 6, 2, 0] rfl)
          have hmk := mk_up hmk c10 ew (by rw [hT.2 10 (by omega)]; omega)
          have c0 := wd_keep ew (tg_ne (tg := tg) (by rw [hT.2 0 (by omega), hT.2 10 (by omega)]; omega)) c0
          have c1 := wd_keep ew (tg_ne (tg := tg) (by rw [hT.2 1 (by omega), hT.2 10 (by omega)]; omega)) c1
          have c2 := wd_keep ew (tg_ne (tg := tg) (by rw [hT.2 2 (by omega), hT.2 10 (by omega)]; omega)) c2
          have c3 := wd_keep ew (tg_ne (tg := tg) (by rw [hT.2 3 (by omega), hT.2 10 (by omega)]; omega)) c3
          have c4 := wd_keep ew (tg_ne (tg := tg) (by rw [hT.2 4 (by omega), hT.2 10 (by omega)]; omega)) c4
          have c5 := wd_keep ew (tg_ne (tg := tg) (by rw [hT.2 5 (by omega), hT.2 10 (by omega)]; omega)) c5
          have c6 := wd_keep ew (tg_ne (tg := tg) (by rw [hT.2 6 (by omega), hT.2 10 (by omega)]; omega)) c6
          have c7 := wd_keep ew (tg_ne (tg := tg) (by rw [hT.2 7 (by omega), hT.2 10 (by omega)]; omega)) c7
          have c8 := wd_keep ew (tg_ne (tg := tg) (by rw [hT.2 8 (by omega), hT.2 10 (by omega)]; omega)) c8
          have c9 := wd_keep ew (tg_ne (tg := tg) (by rw [hT.2 9 (by omega), hT.2 10 (by omega)]; omega)) c9
          have c11 := wd_keep ew (tg_ne (tg := tg) (by rw [hT.2 11 (by omega), hT.2 10 (by omega)]; omega)) c11
          have c12 := wd_keep ew (tg_ne (tg := tg) (by rw [hT.2 12 (by omega), hT.2 10 (by omega)]; omega)) c12
          have c13 := wd_keep ew (tg_ne (tg := tg) (by rw [hT.2 13 (by omega), hT.2 10 (by omega)]; omega)) c13
          have c14 := wd_keep ew (tg_ne (tg := tg) (by rw [hT.2 14 (by omega), hT.2 10 (by omega)]; omega)) c14
          have c15 := wd_keep ew (tg_ne (tg := tg) (by rw [hT.2 15 (by omega), hT.2 10 (by omega)]; omega)) c15
          have c16 := wd_keep ew (tg_ne (tg := tg) (by rw [hT.2 16 (by omega), hT.2 10 (by omega)]; omega)) c16
          have c17 := wd_keep ew (tg_ne (tg := tg) (by rw [hT.2 17 (by omega), hT.2 10 (by omega)]; omega)) c17
          have ht0 := wd_keep ew (wd_ne ht0 c10 (by simp)) ht0
          have c10 := wd_here ew
          refine lv_iload_n hx hb d_Mo_pattern_220 rfl (lv_at hl 1 rfl) ?_
          have hcF : mo_c G w10 t C (fun k9 => if k9 = 10 then g10 else if k9 = 6 then upd (M 6) ml.length d else M k9) (nI Ls.length) (nI ([] : List Int32).length) (nI (Ps.set k (i, ml, md ++ [d])).length) (nI (hy_tot (Ps.set k (i, ml, md ++ [d])))) (nI Ts.length) (nI wd.length) (nI pl.length) := by rw [List.length_set, tot_set hpk (by rw [hpm])]; exact ⟨ht0, c0, c1, c2, c3, c4, c5, c6, c7, c8, c9, c10, c11, c12, c13, c14, c15, c16, c17⟩
          exact ct_iret S hr rfl hlocks hW (⟨(Ls, Ps.set k (i, ml, md ++ [d]), Ts, [], [], wd, pl), Or.inr ⟨hok, i, rfl, Or.inr (Or.inl ⟨hpat, k, Or.inr ⟨k, p, rfl, hpk, ⟨hpl1, hpm⟩, hno⟩, hkl, rfl, rfl⟩)⟩, ⟨C, (fun k9 => if k9 = 10 then g10 else if k9 = 6 then upd (M 6) ml.length d else M k9), hcF, hT, (mo_lc hl0 (fun k9 h2 => by show (if k9 = 10 then g10 else if k9 = 6 then upd (M 6) ml.length d else M k9) = M k9; rw [if_neg (by omega), if_neg (by omega)])), (mo_p_set (p2 := (i, ml, md ++ [d])) hp0 hpk (fun p hp => ⟨(wps p hp).2.1, (wps p hp).2.2.2.1⟩) rfl rfl rfl hpl1.symm hpm.symm g1 g2), (mo_tc hq0 (fun k9 h1 h2 => by show (if k9 = 10 then g10 else if k9 = 6 then upd (M 6) ml.length d else M k9) = M k9; rw [if_neg (by omega), if_neg (by omega)])), li_nil, li_nil, hwd, hpl⟩, hmk⟩) (Nat.le_of_ble_eq_true rfl) (Nat.le_of_ble_eq_true rfl) d_Mo_pattern_221
        · have hkl : k = Ps.length := (nI_eq (by omega) (by omega)).mp h85
          have hfm1 : fm_ Ps (fun p => p.1 = i ∧ p.2.1 = ml) (-1) := Or.inl ⟨rfl, fun j p hj => hno j p (by have := (List.getElem?_eq_some_iff.mp hj).1; omega) hj⟩
          refine lv_aload_n hx hb d_Mo_pattern_88 rfl (lv_at hl 2 rfl) ?_
          refine wd_get S i_Mo hK hW ht0 rfl 9 (by decide) k_Mo_80 rfl rfl d_Mo_pattern_89 ?_
          refine lv_sipush (v := 150) hx hb d_Mo_pattern_92 (by decide) ?_
          refine lv_icmp_eq (tgt := 111) hx hb d_Mo_pattern_95 (by decide) (fun h95 => ?_) (fun h95 => ?_)
          · refine lv_bipush (v := -2) hx hb d_Mo_pattern_111 (by decide) ?_
            have hcF : mo_c G w_14 t C (fun k9 => if k9 = 6 then upd (M 6) ml.length d else M k9) (nI Ls.length) (nI ([] : List Int32).length) (nI Ps.length) (nI (hy_tot Ps)) (nI Ts.length) (nI wd.length) (nI pl.length) := ⟨ht0, c0, c1, c2, c3, c4, c5, c6, c7, c8, c9, c10, c11, c12, c13, c14, c15, c16, c17⟩
            exact ct_iret S hr rfl hlocks hW (⟨(Ls, Ps, Ts, [], [], wd, pl), Or.inr ⟨hok, i, rfl, Or.inr (Or.inr (Or.inl ⟨hpat, hfm1, fun q => absurd ((nI_eq (a := Ps.length) (b := 150) (by omega) (by omega)).mp h95) (by have q : Ps.length < 150 := q.1; omega), rfl, rfl⟩))⟩, ⟨C, (fun k9 => if k9 = 6 then upd (M 6) ml.length d else M k9), hcF, hT, (mo_lc hl0 (fun k9 h2 => by show (if k9 = 6 then upd (M 6) ml.length d else M k9) = M k9; rw [if_neg (by omega)])), (mo_pc hp0 (fun k9 h1 h2 => by show (if k9 = 6 then upd (M 6) ml.length d else M k9) = M k9; rw [if_neg (by omega)])), (mo_tc hq0 (fun k9 h1 h2 => by show (if k9 = 6 then upd (M 6) ml.length d else M k9) = M k9; rw [if_neg (by omega)])), li_nil, li_nil, hwd, hpl⟩, hmk⟩) (Nat.le_of_ble_eq_true rfl) (Nat.le_of_ble_eq_true rfl) d_Mo_pattern_113
          · have hp150 : Ps.length < 150 := Nat.lt_of_le_of_ne wP (fun z => h95 (by rw [z]; rfl))
            refine lv_aload_n hx hb d_Mo_pattern_98 rfl (lv_at hl 2 rfl) ?_
            refine wd_get S i_Mo hK hW ht0 rfl 10 (by decide) k_Mo_91 rfl rfl d_Mo_pattern_99 ?_
            refine lv_iload hx hb d_Mo_pattern_102 (lv_at hl 1 rfl) ?_
            refine lv_iadd hx hb d_Mo_pattern_104 ?_
            refine lv_sipush (v := 900) hx hb d_Mo_pattern_105 (by decide) ?_
            rw [nI_add]
            refine lv_icmp_le (tgt := 114) hx hb d_Mo_pattern_108 (by decide) (fun h108 => ?_) (fun h108 => ?_)
            · have h900 : hy_tot Ps + ml.length ≤ 900 := (nI_leI (a := hy_tot Ps + ml.length) (b := 900) (by omega) (by omega)).mp h108
              subst hkl
              refine lv_aload_n hx hb d_Mo_pattern_114 rfl (lv_at hl 2 rfl) ?_
              refine wd_get S i_Mo hK hW ht0 rfl 11 (by decide) k_Mo_32 rfl rfl d_Mo_pattern_115 ?_
              refine lv_iload_n hx hb d_Mo_pattern_118 rfl (lv_at hl 5 rfl) ?_
              refine lv_iload_n hx hb d_Mo_pattern_119 rfl (lv_at hl 3 rfl) ?_
              refine wd_iast S hK hW 0 c7 rfl (vp_in_nI (by omega) (by omega)) d_Mo_pattern_120 (fun H locs w_15 ew_15 hW => ?_)
              have hmk := mk_up hmk c7 ew_15 (by rw [hT.2 7 (by omega)]; omega)
              have ht0 := wd_keep ew_15 (wd_ne ht0 c7 (by simp)) ht0
              have c0 := wd_keep ew_15 (tg_ne (tg := tg) (by rw [hT.2 0 (by omega), hT.2 7 (by omega)]; omega)) c0
              have c1 := wd_keep ew_15 (tg_ne (tg := tg) (by rw [hT.2 1 (by omega), hT.2 7 (by omega)]; omega)) c1
              have c2 := wd_keep ew_15 (tg_ne (tg := tg) (by rw [hT.2 2 (by omega), hT.2 7 (by omega)]; omega)) c2
              have c3 := wd_keep ew_15 (tg_ne (tg := tg) (by rw [hT.2 3 (by omega), hT.2 7 (by omega)]; omega)) c3
              have c4 := wd_keep ew_15 (tg_ne (tg := tg) (by rw [hT.2 4 (by omega), hT.2 7 (by omega)]; omega)) c4
              have c5 := wd_keep ew_15 (tg_ne (tg := tg) (by rw [hT.2 5 (by omega), hT.2 7 (by omega)]; omega)) c5
              have c6 := wd_keep ew_15 (tg_ne (tg := tg) (by rw [hT.2 6 (by omega), hT.2 7 (by omega)]; omega)) c6
              have c8 := wd_keep ew_15 (tg_ne (tg := tg) (by rw [hT.2 8 (by omega), hT.2 7 (by omega)]; omega)) c8
              have c9 := wd_keep ew_15 (tg_ne (tg := tg) (by rw [hT.2 9 (by omega), hT.2 7 (by omega)]; omega)) c9
              have c10 := wd_keep ew_15 (tg_ne (tg := tg) (by rw [hT.2 10 (by omega), hT.2 7 (by omega)]; omega)) c10
              have c11 := wd_keep ew_15 (tg_ne (tg := tg) (by rw [hT.2 11 (by omega), hT.2 7 (by omega)]; omega)) c11
              have c12 := wd_keep ew_15 (tg_ne (tg := tg) (by rw [hT.2 12 (by omega), hT.2 7 (by omega)]; omega)) c12
              have c13 := wd_keep ew_15 (tg_ne (tg := tg) (by rw [hT.2 13 (by omega), hT.2 7 (by omega)]; omega)) c13
              have c14 := wd_keep ew_15 (tg_ne (tg := tg) (by rw [hT.2 14 (by omega), hT.2 7 (by omega)]; omega)) c14
              have c15 := wd_keep ew_15 (tg_ne (tg := tg) (by rw [hT.2 15 (by omega), hT.2 7 (by omega)]; omega)) c15
              have c16 := wd_keep ew_15 (tg_ne (tg := tg) (by rw [hT.2 16 (by omega), hT.2 7 (by omega)]; omega)) c16
              have c17 := wd_keep ew_15 (tg_ne (tg := tg) (by rw [hT.2 17 (by omega), hT.2 7 (by omega)]; omega)) c17
              have c7 : w_15 (C 7) = some (.inl (G.2.1 0, 150, .inl (upd (M 7) ((nI Ps.length) : Int32).toNatClampNeg (nI i)))) := wd_here ew_15
              rw [nI_clamp (by omega)] at c7
              refine lv_aload_n hx hb d_Mo_pattern_121 rfl (lv_at hl 2 rfl) ?_
              refine wd_get S i_Mo hK hW ht0 rfl 12 (by decide) k_Mo_35 rfl rfl d_Mo_pattern_122 ?_
              refine lv_iload_n hx hb d_Mo_pattern_125 rfl (lv_at hl 5 rfl) ?_
              refine lv_iload hx hb d_Mo_pattern_126 (lv_at hl 1 rfl) ?_
              refine wd_iast S hK hW 0 c8 rfl (vp_in_nI (by omega) (by omega)) d_Mo_pattern_128 (fun H locs w_16 ew_16 hW => ?_)
              have hmk := mk_up hmk c8 ew_16 (by rw [hT.2 8 (by omega)]; omega)
              have ht0 := wd_keep ew_16 (wd_ne ht0 c8 (by simp)) ht0
              have c0 := wd_keep ew_16 (tg_ne (tg := tg) (by rw [hT.2 0 (by omega), hT.2 8 (by omega)]; omega)) c0
              have c1 := wd_keep ew_16 (tg_ne (tg := tg) (by rw [hT.2 1 (by omega), hT.2 8 (by omega)]; omega)) c1
              have c2 := wd_keep ew_16 (tg_ne (tg := tg) (by rw [hT.2 2 (by omega), hT.2 8 (by omega)]; omega)) c2
              have c3 := wd_keep ew_16 (tg_ne (tg := tg) (by rw [hT.2 3 (by omega), hT.2 8 (by omega)]; omega)) c3
              have c4 := wd_keep ew_16 (tg_ne (tg := tg) (by rw [hT.2 4 (by omega), hT.2 8 (by omega)]; omega)) c4
              have c5 := wd_keep ew_16 (tg_ne (tg := tg) (by rw [hT.2 5 (by omega), hT.2 8 (by omega)]; omega)) c5
              have c6 := wd_keep ew_16 (tg_ne (tg := tg) (by rw [hT.2 6 (by omega), hT.2 8 (by omega)]; omega)) c6
              have c7 := wd_keep ew_16 (tg_ne (tg := tg) (by rw [hT.2 7 (by omega), hT.2 8 (by omega)]; omega)) c7
              have c9 := wd_keep ew_16 (tg_ne (tg := tg) (by rw [hT.2 9 (by omega), hT.2 8 (by omega)]; omega)) c9
              have c10 := wd_keep ew_16 (tg_ne (tg := tg) (by rw [hT.2 10 (by omega), hT.2 8 (by omega)]; omega)) c10
              have c11 := wd_keep ew_16 (tg_ne (tg := tg) (by rw [hT.2 11 (by omega), hT.2 8 (by omega)]; omega)) c11
              have c12 := wd_keep ew_16 (tg_ne (tg := tg) (by rw [hT.2 12 (by omega), hT.2 8 (by omega)]; omega)) c12
              have c13 := wd_keep ew_16 (tg_ne (tg := tg) (by rw [hT.2 13 (by omega), hT.2 8 (by omega)]; omega)) c13
              have c14 := wd_keep ew_16 (tg_ne (tg := tg) (by rw [hT.2 14 (by omega), hT.2 8 (by omega)]; omega)) c14
              have c15 := wd_keep ew_16 (tg_ne (tg := tg) (by rw [hT.2 15 (by omega), hT.2 8 (by omega)]; omega)) c15
              have c16 := wd_keep ew_16 (tg_ne (tg := tg) (by rw [hT.2 16 (by omega), hT.2 8 (by omega)]; omega)) c16
              have c17 := wd_keep ew_16 (tg_ne (tg := tg) (by rw [hT.2 17 (by omega), hT.2 8 (by omega)]; omega)) c17
              have c8 : w_16 (C 8) = some (.inl (G.2.1 0, 150, .inl (upd (M 8) ((nI Ps.length) : Int32).toNatClampNeg (nI ml.length)))) := wd_here ew_16
              rw [nI_clamp (by omega)] at c8
              refine lv_iconst (v := 0) hx hb d_Mo_pattern_129 (by decide) ?_
              refine lv_istore (lv' := [(6, .int 0), (5, .int v_12), (4, .int (nI ml.length)), (0, .ref t), (1, .int (nI i)), (2, .int d), (3, .int (nI Ps.length))]) hx hb d_Mo_pattern_130 hl (by decide) rfl (fun ls hl => ?_)
              have hcA : mo_c G w_16 t C (fun k9 => if k9 = 8 then upd (M 8) Ps.length (nI ml.length) else if k9 = 7 then upd (M 7) Ps.length (nI i) else if k9 = 6 then upd (M 6) ml.length d else M k9) (nI Ls.length) 0 (nI Ps.length) (nI (hy_tot Ps)) (nI Ts.length) (nI wd.length) (nI pl.length) := ⟨ht0, c0, c1, c2, c3, c4, c5, c6, c7, c8, c9, c10, c11, c12, c13, c14, c15, c16, c17⟩
              refine lo_Mo_patternB (M := (fun k9 => if k9 = 8 then upd (M 8) Ps.length (nI ml.length) else if k9 = 7 then upd (M 7) Ps.length (nI i) else if k9 = 6 then upd (M 6) ml.length d else M k9)) (ml := ml) (n := ml.length) (k := Ps.length) S hE hcA hT hml rfl wml (by omega) (fun g9 w9 H locs r1 r2 ew9 hW ls hl => ?_) (ml.length + 1) 0 0 (M 9) _ _ _ _ (by omega) (Nat.zero_le _) nI_0.symm (fun j y hj => absurd hj (Nat.not_lt_zero j)) (fun _ _ => rfl) (up_id c9) hW (lv_sub hl [3, 6, 2, 0] rfl)
              have hmk := mk_up hmk c9 ew9 (by rw [hT.2 9 (by omega)]; omega)
              have c0 := wd_keep ew9 (tg_ne (tg := tg) (by rw [hT.2 0 (by omega), hT.2 9 (by omega)]; omega)) c0
              have c1 := wd_keep ew9 (tg_ne (tg := tg) (by rw [hT.2 1 (by omega), hT.2 9 (by omega)]; omega)) c1
              have c2 := wd_keep ew9 (tg_ne (tg := tg) (by rw [hT.2 2 (by omega), hT.2 9 (by omega)]; omega)) c2
              have c3 := wd_keep ew9 (tg_ne (tg := tg) (by rw [hT.2 3 (by omega), hT.2 9 (by omega)]; omega)) c3
              have c4 := wd_keep ew9 (tg_ne (tg := tg) (by rw [hT.2 4 (by omega), hT.2 9 (by omega)]; omega)) c4
              have c5 := wd_keep ew9 (tg_ne (tg := tg) (by rw [hT.2 5 (by omega), hT.2 9 (by omega)]; omega)) c5
              have c6 := wd_keep ew9 (tg_ne (tg := tg) (by rw [hT.2 6 (by omega), hT.2 9 (by omega)]; omega)) c6
              have c7 := wd_keep ew9 (tg_ne (tg := tg) (by rw [hT.2 7 (by omega), hT.2 9 (by omega)]; omega)) c7
              have c8 := wd_keep ew9 (tg_ne (tg := tg) (by rw [hT.2 8 (by omega), hT.2 9 (by omega)]; omega)) c8
              have c10 := wd_keep ew9 (tg_ne (tg := tg) (by rw [hT.2 10 (by omega), hT.2 9 (by omega)]; omega)) c10
              have c11 := wd_keep ew9 (tg_ne (tg := tg) (by rw [hT.2 11 (by omega), hT.2 9 (by omega)]; omega)) c11
              have c12 := wd_keep ew9 (tg_ne (tg := tg) (by rw [hT.2 12 (by omega), hT.2 9 (by omega)]; omega)) c12
              have c13 := wd_keep ew9 (tg_ne (tg := tg) (by rw [hT.2 13 (by omega), hT.2 9 (by omega)]; omega)) c13
              have c14 := wd_keep ew9 (tg_ne (tg := tg) (by rw [hT.2 14 (by omega), hT.2 9 (by omega)]; omega)) c14
              have c15 := wd_keep ew9 (tg_ne (tg := tg) (by rw [hT.2 15 (by omega), hT.2 9 (by omega)]; omega)) c15
              have c16 := wd_keep ew9 (tg_ne (tg := tg) (by rw [hT.2 16 (by omega), hT.2 9 (by omega)]; omega)) c16
              have c17 := wd_keep ew9 (tg_ne (tg := tg) (by rw [hT.2 17 (by omega), hT.2 9 (by omega)]; omega)) c17
              have ht0 := wd_keep ew9 (wd_ne ht0 c9 (by simp)) ht0
              have c9 := wd_here ew9
              refine lv_aload_n hx hb d_Mo_pattern_164 rfl (lv_at hl 0 rfl) ?_
              refine lv_dup hx hb d_Mo_pattern_165 rfl ?_
              refine wd_get S i_Mo hK hW ht0 rfl 10 (by decide) k_Mo_91 rfl rfl d_Mo_pattern_166 ?_
              refine lv_iload hx hb d_Mo_pattern_169 (lv_at hl 2 rfl) ?_
              refine lv_iadd hx hb d_Mo_pattern_171 ?_
              refine lv_topi (fun nt ent => ?_)
              rw [nI_add] at ent
              refine wd_put S i_Mo t_Mo t_Mo_ok n_Mo hK hW ht0 rfl 10 (by decide) k_Mo_91 rfl rfl rfl rfl (Nat.le_of_ble_eq_true rfl) d_Mo_pattern_172 (fun H locs w_17 ew_17 hW => ?_)
              have hmk := mk_up hmk ht0 ew_17 (by rw [hT.1]; omega)
              have c0 := wd_keep ew_17 (wd_ne c0 ht0 (by simp)) c0
              have c1 := wd_keep ew_17 (wd_ne c1 ht0 (by simp)) c1
              have c2 := wd_keep ew_17 (wd_ne c2 ht0 (by simp)) c2
              have c3 := wd_keep ew_17 (wd_ne c3 ht0 (by simp)) c3
              have c4 := wd_keep ew_17 (wd_ne c4 ht0 (by simp)) c4
              have c5 := wd_keep ew_17 (wd_ne c5 ht0 (by simp)) c5
              have c6 := wd_keep ew_17 (wd_ne c6 ht0 (by simp)) c6
              have c7 := wd_keep ew_17 (wd_ne c7 ht0 (by simp)) c7
              have c8 := wd_keep ew_17 (wd_ne c8 ht0 (by simp)) c8
              have c9 := wd_keep ew_17 (wd_ne c9 ht0 (by simp)) c9
              have c10 := wd_keep ew_17 (wd_ne c10 ht0 (by simp)) c10
              have c11 := wd_keep ew_17 (wd_ne c11 ht0 (by simp)) c11
              have c12 := wd_keep ew_17 (wd_ne c12 ht0 (by simp)) c12
              have c13 := wd_keep ew_17 (wd_ne c13 ht0 (by simp)) c13
              have c14 := wd_keep ew_17 (wd_ne c14 ht0 (by simp)) c14
              have c15 := wd_keep ew_17 (wd_ne c15 ht0 (by simp)) c15
              have c16 := wd_keep ew_17 (wd_ne c16 ht0 (by simp)) c16
              have c17 := wd_keep ew_17 (wd_ne c17 ht0 (by simp)) c17
              have ht0 : w_17 t = some (.inr (5, [.int (nI Ls.length), .ref (C 0), .ref (C 1), .ref (C 2), .ref (C 3), .ref (C 4), .int 0, .ref (C 5), .ref (C 6), .int (nI Ps.length), .int nt, .ref (C 7), .ref (C 8), .ref (C 9), .ref (C 10), .int (nI Ts.length), .ref (C 11), .ref (C 12), .ref (C 13), .ref (C 14), .int (nI wd.length), .ref (C 15), .ref (C 16), .int (nI pl.length), .ref (C 17)])) := wd_here ew_17
              rw [ent] at ht0
              refine lv_aload_n hx hb d_Mo_pattern_175 rfl (lv_at hl 0 rfl) ?_
              refine lv_dup hx hb d_Mo_pattern_176 rfl ?_
              refine wd_get S i_Mo hK hW ht0 rfl 9 (by decide) k_Mo_80 rfl rfl d_Mo_pattern_177 ?_
              refine lv_iconst (v := 1) hx hb d_Mo_pattern_180 (by decide) ?_
              refine lv_iadd hx hb d_Mo_pattern_181 ?_
              refine lv_topi (fun np enp => ?_)
              rw [nI_1] at enp
              refine wd_put S i_Mo t_Mo t_Mo_ok n_Mo hK hW ht0 rfl 9 (by decide) k_Mo_80 rfl rfl rfl rfl (Nat.le_of_ble_eq_true rfl) d_Mo_pattern_182 (fun H locs w_18 ew_18 hW => ?_)
              have hmk := mk_up hmk ht0 ew_18 (by rw [hT.1]; omega)
              have c0 := wd_keep ew_18 (wd_ne c0 ht0 (by simp)) c0
              have c1 := wd_keep ew_18 (wd_ne c1 ht0 (by simp)) c1
              have c2 := wd_keep ew_18 (wd_ne c2 ht0 (by simp)) c2
              have c3 := wd_keep ew_18 (wd_ne c3 ht0 (by simp)) c3
              have c4 := wd_keep ew_18 (wd_ne c4 ht0 (by simp)) c4
              have c5 := wd_keep ew_18 (wd_ne c5 ht0 (by simp)) c5
              have c6 := wd_keep ew_18 (wd_ne c6 ht0 (by simp)) c6
              have c7 := wd_keep ew_18 (wd_ne c7 ht0 (by simp)) c7
              have c8 := wd_keep ew_18 (wd_ne c8 ht0 (by simp)) c8
              have c9 := wd_keep ew_18 (wd_ne c9 ht0 (by simp)) c9
              have c10 := wd_keep ew_18 (wd_ne c10 ht0 (by simp)) c10
              have c11 := wd_keep ew_18 (wd_ne c11 ht0 (by simp)) c11
              have c12 := wd_keep ew_18 (wd_ne c12 ht0 (by simp)) c12
              have c13 := wd_keep ew_18 (wd_ne c13 ht0 (by simp)) c13
              have c14 := wd_keep ew_18 (wd_ne c14 ht0 (by simp)) c14
              have c15 := wd_keep ew_18 (wd_ne c15 ht0 (by simp)) c15
              have c16 := wd_keep ew_18 (wd_ne c16 ht0 (by simp)) c16
              have c17 := wd_keep ew_18 (wd_ne c17 ht0 (by simp)) c17
              have ht0 : w_18 t = some (.inr (5, [.int (nI Ls.length), .ref (C 0), .ref (C 1), .ref (C 2), .ref (C 3), .ref (C 4), .int 0, .ref (C 5), .ref (C 6), .int np, .int (nI (hy_tot Ps + ml.length)), .ref (C 7), .ref (C 8), .ref (C 9), .ref (C 10), .int (nI Ts.length), .ref (C 11), .ref (C 12), .ref (C 13), .ref (C 14), .int (nI wd.length), .ref (C 15), .ref (C 16), .int (nI pl.length), .ref (C 17)])) := wd_here ew_18
              rw [enp] at ht0
              refine lv_iconst (v := 0) hx hb d_Mo_pattern_185 (by decide) ?_
              refine lv_istore (lv' := [(6, .int 0), (0, .ref t), (3, .int (nI Ps.length)), (4, .int (nI ml.length))]) hx hb d_Mo_pattern_186 hl (by decide) rfl (fun ls hl => ?_)
              have hcB : mo_c G w_18 t C (fun k9 => if k9 = 9 then g9 else if k9 = 8 then upd (M 8) Ps.length (nI ml.length) else if k9 = 7 then upd (M 7) Ps.length (nI i) else if k9 = 6 then upd (M 6) ml.length d else M k9) (nI Ls.length) 0 (nI (Ps.length + 1)) (nI (hy_tot Ps + ml.length)) (nI Ts.length) (nI wd.length) (nI pl.length) := ⟨ht0, c0, c1, c2, c3, c4, c5, c6, c7, c8, c9, c10, c11, c12, c13, c14, c15, c16, c17⟩
              refine lo_Mo_patternC (M := (fun k9 => if k9 = 9 then g9 else if k9 = 8 then upd (M 8) Ps.length (nI ml.length) else if k9 = 7 then upd (M 7) Ps.length (nI i) else if k9 = 6 then upd (M 6) ml.length d else M k9)) (md := md ++ [d]) (n := ml.length) (k := Ps.length) S hE hcB hT hmd2 (by rw [List.length_append, wm]; rfl) wml (by omega) (fun g10 w10 H locs g1 g2 ew hW ls hl => ?_) (ml.length + 2) 0 0 (M 10) _ _ _ _ (by rw [List.length_append, ← wm]; show ml.length + 1 < _; omega) (Nat.zero_le _) nI_0.symm (fun j y hj => absurd hj (Nat.not_lt_zero j)) (fun _ _ => rfl) (up_id c10) hW (lv_sub hl [1, 2, 3, 0] rfl)
              have hmk := mk_up hmk c10 ew (by rw [hT.2 10 (by omega)]; omega)
              have c0 := wd_keep ew (tg_ne (tg := tg) (by rw [hT.2 0 (by omega), hT.2 10 (by omega)]; omega)) c0
              have c1 := wd_keep ew (tg_ne (tg := tg) (by rw [hT.2 1 (by omega), hT.2 10 (by omega)]; omega)) c1
              have c2 := wd_keep ew (tg_ne (tg := tg) (by rw [hT.2 2 (by omega), hT.2 10 (by omega)]; omega)) c2
              have c3 := wd_keep ew (tg_ne (tg := tg) (by rw [hT.2 3 (by omega), hT.2 10 (by omega)]; omega)) c3
              have c4 := wd_keep ew (tg_ne (tg := tg) (by rw [hT.2 4 (by omega), hT.2 10 (by omega)]; omega)) c4
              have c5 := wd_keep ew (tg_ne (tg := tg) (by rw [hT.2 5 (by omega), hT.2 10 (by omega)]; omega)) c5
              have c6 := wd_keep ew (tg_ne (tg := tg) (by rw [hT.2 6 (by omega), hT.2 10 (by omega)]; omega)) c6
              have c7 := wd_keep ew (tg_ne (tg := tg) (by rw [hT.2 7 (by omega), hT.2 10 (by omega)]; omega)) c7
              have c8 := wd_keep ew (tg_ne (tg := tg) (by rw [hT.2 8 (by omega), hT.2 10 (by omega)]; omega)) c8
              have c9 := wd_keep ew (tg_ne (tg := tg) (by rw [hT.2 9 (by omega), hT.2 10 (by omega)]; omega)) c9
              have c11 := wd_keep ew (tg_ne (tg := tg) (by rw [hT.2 11 (by omega), hT.2 10 (by omega)]; omega)) c11
              have c12 := wd_keep ew (tg_ne (tg := tg) (by rw [hT.2 12 (by omega), hT.2 10 (by omega)]; omega)) c12
              have c13 := wd_keep ew (tg_ne (tg := tg) (by rw [hT.2 13 (by omega), hT.2 10 (by omega)]; omega)) c13
              have c14 := wd_keep ew (tg_ne (tg := tg) (by rw [hT.2 14 (by omega), hT.2 10 (by omega)]; omega)) c14
              have c15 := wd_keep ew (tg_ne (tg := tg) (by rw [hT.2 15 (by omega), hT.2 10 (by omega)]; omega)) c15
              have c16 := wd_keep ew (tg_ne (tg := tg) (by rw [hT.2 16 (by omega), hT.2 10 (by omega)]; omega)) c16
              have c17 := wd_keep ew (tg_ne (tg := tg) (by rw [hT.2 17 (by omega), hT.2 10 (by omega)]; omega)) c17
              have ht0 := wd_keep ew (wd_ne ht0 c10 (by simp)) ht0
              have c10 := wd_here ew
              refine lv_iload_n hx hb d_Mo_pattern_220 rfl (lv_at hl 1 rfl) ?_
              have hcF : mo_c G w10 t C (fun k9 => if k9 = 10 then g10 else if k9 = 9 then g9 else if k9 = 8 then upd (M 8) Ps.length (nI ml.length) else if k9 = 7 then upd (M 7) Ps.length (nI i) else if k9 = 6 then upd (M 6) ml.length d else M k9) (nI Ls.length) (nI ([] : List Int32).length) (nI (Ps ++ [(i, ml, md ++ [d])]).length) (nI (hy_tot (Ps ++ [(i, ml, md ++ [d])]))) (nI Ts.length) (nI wd.length) (nI pl.length)   := by rw [List.length_append, tot_app]; exact ⟨ht0, c0, c1, c2, c3, c4, c5, c6, c7, c8, c9, c10, c11, c12, c13, c14, c15, c16, c17⟩
              exact ct_iret S hr rfl hlocks hW (⟨(Ls, Ps ++ [(i, ml, md ++ [d])], Ts, [], [], wd, pl), Or.inr ⟨hok, i, rfl, Or.inr (Or.inr (Or.inr ⟨hpat, hfm1, ⟨hp150, h900⟩, rfl, rfl⟩))⟩, ⟨C, (fun k9 => if k9 = 10 then g10 else if k9 = 9 then g9 else if k9 = 8 then upd (M 8) Ps.length (nI ml.length) else if k9 = 7 then upd (M 7) Ps.length (nI i) else if k9 = 6 then upd (M 6) ml.length d else M k9), hcF, hT, (mo_lc hl0 (fun k9 h2 => by show (if k9 = 10 then g10 else if k9 = 9 then g9 else if k9 = 8 then upd (M 8) Ps.length (nI ml.length) else if k9 = 7 then upd (M 7) Ps.length (nI i) else if k9 = 6 then upd (M 6) ml.length d else M k9) = M k9; rw [if_neg (by omega), if_neg (by omega), if_neg (by omega), if_neg (by omega), if_neg (by omega)])), (mo_p_add (p := (i, ml, md ++ [d])) hp0 (fun p hp => ⟨(wps p hp).2.1, (wps p hp).2.2.2.1⟩) rfl rfl r1 r2 g1 g2), (mo_tc hq0 (fun k9 h1 h2 => by show (if k9 = 10 then g10 else if k9 = 9 then g9 else if k9 = 8 then upd (M 8) Ps.length (nI ml.length) else if k9 = 7 then upd (M 7) Ps.length (nI i) else if k9 = 6 then upd (M 6) ml.length d else M k9) = M k9; rw [if_neg (by omega), if_neg (by omega), if_neg (by omega), if_neg (by omega), if_neg (by omega)])), li_nil, li_nil, hwd, hpl⟩, hmk⟩) (Nat.le_of_ble_eq_true rfl) (Nat.le_of_ble_eq_true rfl) d_Mo_pattern_221
            · refine lv_bipush (v := -2) hx hb d_Mo_pattern_111 (by decide) ?_
              have hcF : mo_c G w_14 t C (fun k9 => if k9 = 6 then upd (M 6) ml.length d else M k9) (nI Ls.length) (nI ([] : List Int32).length) (nI Ps.length) (nI (hy_tot Ps)) (nI Ts.length) (nI wd.length) (nI pl.length) := ⟨ht0, c0, c1, c2, c3, c4, c5, c6, c7, c8, c9, c10, c11, c12, c13, c14, c15, c16, c17⟩
              exact ct_iret S hr rfl hlocks hW (⟨(Ls, Ps, Ts, [], [], wd, pl), Or.inr ⟨hok, i, rfl, Or.inr (Or.inr (Or.inl ⟨hpat, hfm1, fun q => h108 (nI_le (b := 900) q.2 (by omega)), rfl, rfl⟩))⟩, ⟨C, (fun k9 => if k9 = 6 then upd (M 6) ml.length d else M k9), hcF, hT, (mo_lc hl0 (fun k9 h2 => by show (if k9 = 6 then upd (M 6) ml.length d else M k9) = M k9; rw [if_neg (by omega)])), (mo_pc hp0 (fun k9 h1 h2 => by show (if k9 = 6 then upd (M 6) ml.length d else M k9) = M k9; rw [if_neg (by omega)])), (mo_tc hq0 (fun k9 h1 h2 => by show (if k9 = 6 then upd (M 6) ml.length d else M k9) = M k9; rw [if_neg (by omega)])), li_nil, li_nil, hwd, hpl⟩, hmk⟩) (Nat.le_of_ble_eq_true rfl) (Nat.le_of_ble_eq_true rfl) d_Mo_pattern_113
      · refine lv_bipush (v := -3) hx hb d_Mo_pattern_77 (by decide) ?_
        have hcF : mo_c G w_14 t C (fun k9 => if k9 = 6 then upd (M 6) ml.length d else M k9) (nI Ls.length) (nI ([] : List Int32).length) (nI Ps.length) (nI (hy_tot Ps)) (nI Ts.length) (nI wd.length) (nI pl.length) := ⟨ht0, c0, c1, c2, c3, c4, c5, c6, c7, c8, c9, c10, c11, c12, c13, c14, c15, c16, c17⟩
        exact ct_iret S hr rfl hlocks hW (⟨(Ls, Ps, Ts, [], [], wd, pl), Or.inr ⟨hok, i, rfl, Or.inl ⟨bl_f hvp h74, rfl, rfl⟩⟩, ⟨C, (fun k9 => if k9 = 6 then upd (M 6) ml.length d else M k9), hcF, hT, (mo_lc hl0 (fun k9 h2 => by show (if k9 = 6 then upd (M 6) ml.length d else M k9) = M k9; rw [if_neg (by omega)])), (mo_pc hp0 (fun k9 h1 h2 => by show (if k9 = 6 then upd (M 6) ml.length d else M k9) = M k9; rw [if_neg (by omega)])), (mo_tc hq0 (fun k9 h1 h2 => by show (if k9 = 6 then upd (M 6) ml.length d else M k9) = M k9; rw [if_neg (by omega)])), li_nil, li_nil, hwd, hpl⟩, hmk⟩) (Nat.le_of_ble_eq_true rfl) (Nat.le_of_ble_eq_true rfl) d_Mo_pattern_79
    · refine lv_iconst (v := -1) hx hb d_Mo_pattern_18 (by decide) ?_
      exact ct_iret S hr rfl hlocks hW (⟨_, Or.inl ⟨fun q => bl_f hv2 h15 q.2, rfl, rfl⟩, h, mk_rf⟩) (Nat.le_of_ble_eq_true rfl) (Nat.le_of_ble_eq_true rfl) d_Mo_pattern_19
end
