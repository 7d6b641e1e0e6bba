/-! NAMES: classes, fields, methods, decoded instructions, and every word of the tables by its place. Written by a program of mine out of the Statement's tables and the methods' bytes. -/
abbrev R_HR : String := "HyphenRows"
def F_HR : u_T := fun k => match k with
  | 0 => ("HyphenRows", "languages", "Ljava/util/ArrayList;", true)
  | 1 => ("HyphenRows", "patterns", "Ljava/util/ArrayList;", true)
  | 2 => ("HyphenRows", "exceptions", "Ljava/util/ArrayList;", true)
  | 3 => ("HyphenRows", "patternLetters", "I", false)
  | 4 => ("HyphenRows", "madeLetters", "[I", true)
  | 5 => ("HyphenRows", "madeDigits", "[I", true)
  | 6 => ("HyphenRows", "made", "I", false)
  | 7 => ("HyphenRows", "word", "[I", true)
  | 8 => ("HyphenRows", "length", "I", false)
  | 9 => ("HyphenRows", "row", "[I", true)
  | 10 => ("HyphenRows", "rowDigits", "[I", true)
  | 11 => ("HyphenRows", "runPlaces", "[I", true)
  | _ => ("HyphenRows", "runPlaceCount", "I", false)
def t_HR : Nat → FieldType := fun k => match k with
  | 0 => .object "java/util/ArrayList"
  | 1 => .object "java/util/ArrayList"
  | 2 => .object "java/util/ArrayList"
  | 3 => .int
  | 4 => .array .int
  | 5 => .array .int
  | 6 => .int
  | 7 => .array .int
  | 8 => .int
  | 9 => .array .int
  | 10 => .array .int
  | 11 => .array .int
  | _ => .int
theorem n_HR : ∀ a, a < 13 → ∀ b, b < 13 → a ≠ b → (F_HR a).2.1 ≠ (F_HR b).2.1 := by decide +kernel
theorem t_HR_ok : ∀ k, k < 13 → parseFieldDescriptor (F_HR k).2.2.1 = some (t_HR k) := by decide +kernel
abbrev R_La : String := "HyphenRows$Language"
def F_La : u_T := fun k => match k with
  | 0 => ("HyphenRows$Language", "letterOf", "[I", true)
  | 1 => ("HyphenRows$Language", "isCapital", "[Z", true)
  | 2 => ("HyphenRows$Language", "leastLeft", "I", false)
  | 3 => ("HyphenRows$Language", "leastRight", "I", false)
  | _ => ("HyphenRows$Language", "capitalsWhole", "Z", false)
def t_La : Nat → FieldType := fun k => match k with
  | 0 => .array .int
  | 1 => .array .boolean
  | 2 => .int
  | 3 => .int
  | _ => .boolean
theorem n_La : ∀ a, a < 5 → ∀ b, b < 5 → a ≠ b → (F_La a).2.1 ≠ (F_La b).2.1 := by decide +kernel
theorem t_La_ok : ∀ k, k < 5 → parseFieldDescriptor (F_La k).2.2.1 = some (t_La k) := by decide +kernel
abbrev R_Pa : String := "HyphenRows$Pattern"
def F_Pa : u_T := fun k => match k with
  | 0 => ("HyphenRows$Pattern", "language", "I", true)
  | 1 => ("HyphenRows$Pattern", "letters", "[I", true)
  | _ => ("HyphenRows$Pattern", "digits", "[I", true)
def t_Pa : Nat → FieldType := fun k => match k with
  | 0 => .int
  | 1 => .array .int
  | _ => .array .int
theorem n_Pa : ∀ a, a < 3 → ∀ b, b < 3 → a ≠ b → (F_Pa a).2.1 ≠ (F_Pa b).2.1 := by decide +kernel
theorem t_Pa_ok : ∀ k, k < 3 → parseFieldDescriptor (F_Pa k).2.2.1 = some (t_Pa k) := by decide +kernel
abbrev R_To : String := "HyphenRows$ToldWord"
def F_To : u_T := fun k => match k with
  | 0 => ("HyphenRows$ToldWord", "language", "I", true)
  | 1 => ("HyphenRows$ToldWord", "letters", "[I", true)
  | _ => ("HyphenRows$ToldWord", "places", "I", false)
def t_To : Nat → FieldType := fun k => match k with
  | 0 => .int
  | 1 => .array .int
  | _ => .int
theorem n_To : ∀ a, a < 3 → ∀ b, b < 3 → a ≠ b → (F_To a).2.1 ≠ (F_To b).2.1 := by decide +kernel
theorem t_To_ok : ∀ k, k < 3 → parseFieldDescriptor (F_To k).2.2.1 = some (t_To k) := by decide +kernel
abbrev R_AL : String := "java/util/ArrayList"
def F_AL : u_T := fun k => match k with
  | 0 => ("java/util/ArrayList", "elementData", "[Ljava/lang/Object;", false)
  | 1 => ("java/util/ArrayList", "size", "I", false)
  | _ => ("java/util/AbstractList", "modCount", "I", false)
def t_AL : Nat → FieldType := fun k => match k with
  | 0 => .array (.object "java/lang/Object")
  | 1 => .int
  | _ => .int
theorem n_AL : ∀ a, a < 3 → ∀ b, b < 3 → a ≠ b → (F_AL a).2.1 ≠ (F_AL b).2.1 := by decide +kernel
theorem t_AL_ok : ∀ k, k < 3 → parseFieldDescriptor (F_AL k).2.2.1 = some (t_AL k) := by decide +kernel
abbrev R_Mo : String := "HyphenRowsModel"
def F_Mo : u_T := fun k => match k with
  | 0 => ("HyphenRowsModel", "languages", "I", false)
  | 1 => ("HyphenRowsModel", "letters", "[I", true)
  | 2 => ("HyphenRowsModel", "capital", "[Z", true)
  | 3 => ("HyphenRowsModel", "left", "[I", true)
  | 4 => ("HyphenRowsModel", "right", "[I", true)
  | 5 => ("HyphenRowsModel", "whole", "[Z", true)
  | 6 => ("HyphenRowsModel", "making", "I", false)
  | 7 => ("HyphenRowsModel", "row", "[I", true)
  | 8 => ("HyphenRowsModel", "before", "[I", true)
  | 9 => ("HyphenRowsModel", "patterns", "I", false)
  | 10 => ("HyphenRowsModel", "together", "I", false)
  | 11 => ("HyphenRowsModel", "owner", "[I", true)
  | 12 => ("HyphenRowsModel", "size", "[I", true)
  | 13 => ("HyphenRowsModel", "rows", "[I", true)
  | 14 => ("HyphenRowsModel", "digits", "[I", true)
  | 15 => ("HyphenRowsModel", "exceptions", "I", false)
  | 16 => ("HyphenRowsModel", "exceptionOwner", "[I", true)
  | 17 => ("HyphenRowsModel", "exceptionSize", "[I", true)
  | 18 => ("HyphenRowsModel", "exceptionRows", "[I", true)
  | 19 => ("HyphenRowsModel", "exceptionPlaces", "[I", true)
  | 20 => ("HyphenRowsModel", "signs", "I", false)
  | 21 => ("HyphenRowsModel", "word", "[I", true)
  | 22 => ("HyphenRowsModel", "edged", "[I", true)
  | 23 => ("HyphenRowsModel", "places", "I", false)
  | _ => ("HyphenRowsModel", "place", "[I", true)
def t_Mo : Nat → FieldType := fun k => match k with
  | 0 => .int
  | 1 => .array .int
  | 2 => .array .boolean
  | 3 => .array .int
  | 4 => .array .int
  | 5 => .array .boolean
  | 6 => .int
  | 7 => .array .int
  | 8 => .array .int
  | 9 => .int
  | 10 => .int
  | 11 => .array .int
  | 12 => .array .int
  | 13 => .array .int
  | 14 => .array .int
  | 15 => .int
  | 16 => .array .int
  | 17 => .array .int
  | 18 => .array .int
  | 19 => .array .int
  | 20 => .int
  | 21 => .array .int
  | 22 => .array .int
  | 23 => .int
  | _ => .array .int
theorem n_Mo : ∀ a, a < 25 → ∀ b, b < 25 → a ≠ b → (F_Mo a).2.1 ≠ (F_Mo b).2.1 := by decide +kernel
theorem t_Mo_ok : ∀ k, k < 25 → parseFieldDescriptor (F_Mo k).2.2.1 = some (t_Mo k) := by decide +kernel
abbrev ev_cl : List vw_C := [(R_HR, F_HR, 13), (R_La, F_La, 5), (R_Pa, F_Pa, 3), (R_To, F_To, 3), (R_AL, F_AL, 3), (R_Mo, F_Mo, 25)]
abbrev b_HR_init : ByteArray := prog_1_method_1_code
abbrev y_HR_init : MethodName := ⟨"HyphenRows", "<init>", "()V"⟩
abbrev b_Oj_init : ByteArray := object_method_1_code
abbrev y_Oj_init : MethodName := ⟨"java/lang/Object", "<init>", "()V"⟩
abbrev b_AL_init : ByteArray := prog_14_method_2_code
abbrev y_AL_init : MethodName := ⟨"java/util/ArrayList", "<init>", "()V"⟩
abbrev b_Ab_init : ByteArray := prog_13_method_1_code
abbrev y_Ab_init : MethodName := ⟨"java/util/AbstractList", "<init>", "()V"⟩
abbrev b_Ac_init : ByteArray := prog_12_method_1_code
abbrev y_Ac_init : MethodName := ⟨"java/util/AbstractCollection", "<init>", "()V"⟩
abbrev b_HR_language : ByteArray := prog_1_method_2_code
abbrev y_HR_language : MethodName := ⟨"HyphenRows", "language", "()I"⟩
abbrev b_AL_size : ByteArray := prog_14_method_8_code
abbrev y_AL_size : MethodName := ⟨"java/util/ArrayList", "size", "()I"⟩
abbrev b_La_init : ByteArray := prog_2_method_1_code
abbrev y_La_init : MethodName := ⟨"HyphenRows$Language", "<init>", "()V"⟩
abbrev b_AL_add1 : ByteArray := prog_14_method_25_code
abbrev y_AL_add1 : MethodName := ⟨"java/util/ArrayList", "add", "(Ljava/lang/Object;)Z"⟩
abbrev b_AL_add3 : ByteArray := prog_14_method_24_code
abbrev y_AL_add3 : MethodName := ⟨"java/util/ArrayList", "add", "(Ljava/lang/Object;[Ljava/lang/Object;I)V"⟩
abbrev b_AL_grow0 : ByteArray := prog_14_method_7_code
abbrev y_AL_grow0 : MethodName := ⟨"java/util/ArrayList", "grow", "()[Ljava/lang/Object;"⟩
abbrev b_AL_grow1 : ByteArray := prog_14_method_6_code
abbrev y_AL_grow1 : MethodName := ⟨"java/util/ArrayList", "grow", "(I)[Ljava/lang/Object;"⟩
abbrev b_As_newLength : ByteArray := prog_21_method_27_code
abbrev y_As_newLength : MethodName := ⟨"jdk/internal/util/ArraysSupport", "newLength", "(III)I"⟩
abbrev b_Ma_max : ByteArray := prog_10_method_65_code
abbrev y_Ma_max : MethodName := ⟨"java/lang/Math", "max", "(II)I"⟩
abbrev b_As_hugeLength : ByteArray := prog_21_method_28_code
abbrev y_As_hugeLength : MethodName := ⟨"jdk/internal/util/ArraysSupport", "hugeLength", "(II)I"⟩
abbrev b_Ar_copyOf2 : ByteArray := prog_15_method_119_code
abbrev y_Ar_copyOf2 : MethodName := ⟨"java/util/Arrays", "copyOf", "([Ljava/lang/Object;I)[Ljava/lang/Object;"⟩
abbrev b_Ar_copyOf3 : ByteArray := prog_15_method_120_code
abbrev y_Ar_copyOf3 : MethodName := ⟨"java/util/Arrays", "copyOf", "([Ljava/lang/Object;ILjava/lang/Class;)[Ljava/lang/Object;"⟩
abbrev b_Ma_min : ByteArray := prog_10_method_69_code
abbrev y_Ma_min : MethodName := ⟨"java/lang/Math", "min", "(II)I"⟩
abbrev b_HR_code : ByteArray := prog_1_method_3_code
abbrev y_HR_code : MethodName := ⟨"HyphenRows", "code", "(IIIZ)I"⟩
abbrev b_HR_isLanguage : ByteArray := prog_1_method_16_code
abbrev y_HR_isLanguage : MethodName := ⟨"HyphenRows", "isLanguage", "(I)Z"⟩
abbrev b_HR_isSign : ByteArray := prog_1_method_17_code
abbrev y_HR_isSign : MethodName := ⟨"HyphenRows", "isSign", "(I)Z"⟩
abbrev b_HR_isLetterOrZero : ByteArray := prog_1_method_18_code
abbrev y_HR_isLetterOrZero : MethodName := ⟨"HyphenRows", "isLetterOrZero", "(I)Z"⟩
abbrev b_AL_get : ByteArray := prog_14_method_20_code
abbrev y_AL_get : MethodName := ⟨"java/util/ArrayList", "get", "(I)Ljava/lang/Object;"⟩
abbrev b_Ob_checkIndex : ByteArray := prog_18_method_17_code
abbrev y_Ob_checkIndex : MethodName := ⟨"java/util/Objects", "checkIndex", "(II)I"⟩
abbrev b_Pc_checkIndex : ByteArray := prog_22_method_11_code
abbrev y_Pc_checkIndex : MethodName := ⟨"jdk/internal/util/Preconditions", "checkIndex", "(IILjava/util/function/BiFunction;)I"⟩
abbrev b_AL_elementData : ByteArray := prog_14_method_18_code
abbrev y_AL_elementData : MethodName := ⟨"java/util/ArrayList", "elementData", "(I)Ljava/lang/Object;"⟩
abbrev b_HR_ends : ByteArray := prog_1_method_4_code
abbrev y_HR_ends : MethodName := ⟨"HyphenRows", "ends", "(IIIZ)I"⟩
abbrev b_HR_isLeast : ByteArray := prog_1_method_20_code
abbrev y_HR_isLeast : MethodName := ⟨"HyphenRows", "isLeast", "(I)Z"⟩
abbrev b_HR_next : ByteArray := prog_1_method_5_code
abbrev y_HR_next : MethodName := ⟨"HyphenRows", "next", "(II)I"⟩
abbrev b_HR_isDigit : ByteArray := prog_1_method_19_code
abbrev y_HR_isDigit : MethodName := ⟨"HyphenRows", "isDigit", "(I)Z"⟩
abbrev b_HR_pattern : ByteArray := prog_1_method_6_code
abbrev y_HR_pattern : MethodName := ⟨"HyphenRows", "pattern", "(II)I"⟩
abbrev b_HR_isPatternRow : ByteArray := prog_1_method_21_code
abbrev y_HR_isPatternRow : MethodName := ⟨"HyphenRows", "isPatternRow", "(I)Z"⟩
abbrev b_HR_patternWithMadeRow : ByteArray := prog_1_method_22_code
abbrev y_HR_patternWithMadeRow : MethodName := ⟨"HyphenRows", "patternWithMadeRow", "(II)I"⟩
abbrev b_HR_standsAt : ByteArray := prog_1_method_31_code
abbrev y_HR_standsAt : MethodName := ⟨"HyphenRows", "standsAt", "([I[II)Z"⟩
abbrev b_HR_addPattern : ByteArray := prog_1_method_23_code
abbrev y_HR_addPattern : MethodName := ⟨"HyphenRows", "addPattern", "(II)I"⟩
abbrev b_Ar_copyOfI : ByteArray := prog_15_method_123_code
abbrev y_Ar_copyOfI : MethodName := ⟨"java/util/Arrays", "copyOf", "([II)[I"⟩
abbrev b_Pa_init : ByteArray := prog_3_method_1_code
abbrev y_Pa_init : MethodName := ⟨"HyphenRows$Pattern", "<init>", "(I[I[I)V"⟩
abbrev b_HR_sign : ByteArray := prog_1_method_7_code
abbrev y_HR_sign : MethodName := ⟨"HyphenRows", "sign", "(I)I"⟩
abbrev b_HR_clear : ByteArray := prog_1_method_8_code
abbrev y_HR_clear : MethodName := ⟨"HyphenRows", "clear", "()I"⟩
abbrev b_HR_exception : ByteArray := prog_1_method_9_code
abbrev y_HR_exception : MethodName := ⟨"HyphenRows", "exception", "(II)I"⟩
abbrev b_HR_spellWord : ByteArray := prog_1_method_25_code
abbrev y_HR_spellWord : MethodName := ⟨"HyphenRows", "spellWord", "(LHyphenRows$Language;)Z"⟩
abbrev b_HR_exceptionWithWordsLetters : ByteArray := prog_1_method_26_code
abbrev y_HR_exceptionWithWordsLetters : MethodName := ⟨"HyphenRows", "exceptionWithWordsLetters", "(I)I"⟩
abbrev b_Ar_copyOfRange : ByteArray := prog_15_method_136_code
abbrev y_Ar_copyOfRange : MethodName := ⟨"java/util/Arrays", "copyOfRange", "([III)[I"⟩
abbrev b_Ar_copyOfRangeInt : ByteArray := prog_15_method_137_code
abbrev y_Ar_copyOfRangeInt : MethodName := ⟨"java/util/Arrays", "copyOfRangeInt", "([III)[I"⟩
abbrev b_Ar_checkLength : ByteArray := prog_15_method_131_code
abbrev y_Ar_checkLength : MethodName := ⟨"java/util/Arrays", "checkLength", "(II)V"⟩
abbrev b_To_init : ByteArray := prog_4_method_1_code
abbrev y_To_init : MethodName := ⟨"HyphenRows$ToldWord", "<init>", "(I[II)V"⟩
abbrev b_HR_drop : ByteArray := prog_1_method_10_code
abbrev y_HR_drop : MethodName := ⟨"HyphenRows", "drop", "(I)I"⟩
abbrev b_AL_remove : ByteArray := prog_14_method_29_code
abbrev y_AL_remove : MethodName := ⟨"java/util/ArrayList", "remove", "(I)Ljava/lang/Object;"⟩
abbrev b_AL_fastRemove : ByteArray := prog_14_method_39_code
abbrev y_AL_fastRemove : MethodName := ⟨"java/util/ArrayList", "fastRemove", "([Ljava/lang/Object;I)V"⟩
abbrev b_HR_run : ByteArray := prog_1_method_11_code
abbrev y_HR_run : MethodName := ⟨"HyphenRows", "run", "(I)I"⟩
abbrev b_HR_staysWhole : ByteArray := prog_1_method_24_code
abbrev y_HR_staysWhole : MethodName := ⟨"HyphenRows", "staysWhole", "(LHyphenRows$Language;)Z"⟩
abbrev b_HR_findRowDigits : ByteArray := prog_1_method_27_code
abbrev y_HR_findRowDigits : MethodName := ⟨"HyphenRows", "findRowDigits", "(I)V"⟩
abbrev b_Ar_fill : ByteArray := prog_15_method_103_code
abbrev y_Ar_fill : MethodName := ⟨"java/util/Arrays", "fill", "([II)V"⟩
abbrev b_HR_takeToldPlaces : ByteArray := prog_1_method_28_code
abbrev y_HR_takeToldPlaces : MethodName := ⟨"HyphenRows", "takeToldPlaces", "(I)V"⟩
abbrev b_HR_layOverRow : ByteArray := prog_1_method_29_code
abbrev y_HR_layOverRow : MethodName := ⟨"HyphenRows", "layOverRow", "(LHyphenRows$Pattern;)V"⟩
abbrev b_HR_raiseDigits : ByteArray := prog_1_method_30_code
abbrev y_HR_raiseDigits : MethodName := ⟨"HyphenRows", "raiseDigits", "([II)V"⟩
abbrev b_HR_at : ByteArray := prog_1_method_12_code
abbrev y_HR_at : MethodName := ⟨"HyphenRows", "at", "(I)I"⟩
abbrev b_HR_digit : ByteArray := prog_1_method_13_code
abbrev y_HR_digit : MethodName := ⟨"HyphenRows", "digit", "(II)I"⟩
abbrev b_HR_patterns : ByteArray := prog_1_method_14_code
abbrev y_HR_patterns : MethodName := ⟨"HyphenRows", "patterns", "()I"⟩
abbrev b_HR_exceptions : ByteArray := prog_1_method_15_code
abbrev y_HR_exceptions : MethodName := ⟨"HyphenRows", "exceptions", "()I"⟩
abbrev b_Mo_init : ByteArray := prog_6_method_1_code
abbrev y_Mo_init : MethodName := ⟨"HyphenRowsModel", "<init>", "()V"⟩
abbrev b_Mo_language : ByteArray := prog_6_method_4_code
abbrev y_Mo_language : MethodName := ⟨"HyphenRowsModel", "language", "()I"⟩
abbrev b_Mo_code : ByteArray := prog_6_method_5_code
abbrev y_Mo_code : MethodName := ⟨"HyphenRowsModel", "code", "(IIIZ)I"⟩
abbrev b_Mo_isLanguage : ByteArray := prog_6_method_2_code
abbrev y_Mo_isLanguage : MethodName := ⟨"HyphenRowsModel", "isLanguage", "(I)Z"⟩
abbrev b_Mo_in : ByteArray := prog_6_method_3_code
abbrev y_Mo_in : MethodName := ⟨"HyphenRowsModel", "in", "(III)Z"⟩
abbrev b_Mo_ends : ByteArray := prog_6_method_6_code
abbrev y_Mo_ends : MethodName := ⟨"HyphenRowsModel", "ends", "(IIIZ)I"⟩
abbrev b_Mo_next : ByteArray := prog_6_method_7_code
abbrev y_Mo_next : MethodName := ⟨"HyphenRowsModel", "next", "(II)I"⟩
abbrev b_Mo_pattern : ByteArray := prog_6_method_10_code
abbrev y_Mo_pattern : MethodName := ⟨"HyphenRowsModel", "pattern", "(II)I"⟩
abbrev b_Mo_isSame : ByteArray := prog_6_method_9_code
abbrev y_Mo_isSame : MethodName := ⟨"HyphenRowsModel", "isSame", "(II)Z"⟩
abbrev b_Mo_isPattern : ByteArray := prog_6_method_8_code
abbrev y_Mo_isPattern : MethodName := ⟨"HyphenRowsModel", "isPattern", "()Z"⟩
abbrev b_Mo_sign : ByteArray := prog_6_method_11_code
abbrev y_Mo_sign : MethodName := ⟨"HyphenRowsModel", "sign", "(I)I"⟩
abbrev b_Mo_clear : ByteArray := prog_6_method_12_code
abbrev y_Mo_clear : MethodName := ⟨"HyphenRowsModel", "clear", "()I"⟩
abbrev b_Mo_exception : ByteArray := prog_6_method_15_code
abbrev y_Mo_exception : MethodName := ⟨"HyphenRowsModel", "exception", "(II)I"⟩
abbrev b_Mo_spell : ByteArray := prog_6_method_13_code
abbrev y_Mo_spell : MethodName := ⟨"HyphenRowsModel", "spell", "(I)Z"⟩
abbrev b_Mo_exceptionOf : ByteArray := prog_6_method_14_code
abbrev y_Mo_exceptionOf : MethodName := ⟨"HyphenRowsModel", "exceptionOf", "(I)I"⟩
abbrev b_Mo_drop : ByteArray := prog_6_method_16_code
abbrev y_Mo_drop : MethodName := ⟨"HyphenRowsModel", "drop", "(I)I"⟩
abbrev b_Mo_run : ByteArray := prog_6_method_19_code
abbrev y_Mo_run : MethodName := ⟨"HyphenRowsModel", "run", "(I)I"⟩
abbrev b_Mo_digitOf : ByteArray := prog_6_method_18_code
abbrev y_Mo_digitOf : MethodName := ⟨"HyphenRowsModel", "digitOf", "(II)I"⟩
abbrev b_Mo_stands : ByteArray := prog_6_method_17_code
abbrev y_Mo_stands : MethodName := ⟨"HyphenRowsModel", "stands", "(II)Z"⟩
abbrev b_Mo_at : ByteArray := prog_6_method_20_code
abbrev y_Mo_at : MethodName := ⟨"HyphenRowsModel", "at", "(I)I"⟩
abbrev b_Mo_digit : ByteArray := prog_6_method_21_code
abbrev y_Mo_digit : MethodName := ⟨"HyphenRowsModel", "digit", "(II)I"⟩
abbrev b_Mo_patterns : ByteArray := prog_6_method_22_code
abbrev y_Mo_patterns : MethodName := ⟨"HyphenRowsModel", "patterns", "()I"⟩
abbrev b_Mo_exceptions : ByteArray := prog_6_method_23_code
abbrev y_Mo_exceptions : MethodName := ⟨"HyphenRowsModel", "exceptions", "()I"⟩
/-- a word of the tables, by its place -/
theorem k_of {x : Cond} (i : Nat) (h : tables_1[i]? = some x) (hg : goodWord x = true) : x ∈ lw_good := List.mem_filter.mpr ⟨List.mem_append_right _ (List.mem_of_getElem? h), hg⟩
theorem k_sel {x : Cond} (i : Nat) (h : (k2_sels lw_privs)[i]? = some x) (hg : goodWord x = true) : x ∈ lw_good := List.mem_filter.mpr ⟨List.mem_append_left _ (List.mem_of_getElem? h), hg⟩
theorem kz_Lw : (Cond.initialized "HyphenRowsLaw") ∈ lw_good := k_of 0 rfl rfl
theorem kz_HR : (Cond.initialized "HyphenRows") ∈ lw_good := k_of 1 rfl rfl
theorem kz_Ac : (Cond.initialized "java/util/AbstractCollection") ∈ lw_good := k_of 2 rfl rfl
theorem kz_Ab : (Cond.initialized "java/util/AbstractList") ∈ lw_good := k_of 3 rfl rfl
theorem kz_AL : (Cond.initialized "java/util/ArrayList") ∈ lw_good := k_of 4 rfl rfl
theorem kz_Mo : (Cond.initialized "HyphenRowsModel") ∈ lw_good := k_of 5 rfl rfl
theorem kz_La : (Cond.initialized "HyphenRows$Language") ∈ lw_good := k_of 6 rfl rfl
theorem kz_As : (Cond.initialized "jdk/internal/util/ArraysSupport") ∈ lw_good := k_of 7 rfl rfl
theorem kz_Ma : (Cond.initialized "java/lang/Math") ∈ lw_good := k_of 8 rfl rfl
theorem kz_Ar : (Cond.initialized "java/util/Arrays") ∈ lw_good := k_of 9 rfl rfl
theorem kz_Sy : (Cond.initialized "java/lang/System") ∈ lw_good := k_of 10 rfl rfl
theorem kz_Ob : (Cond.initialized "java/util/Objects") ∈ lw_good := k_of 11 rfl rfl
theorem kz_Pc : (Cond.initialized "jdk/internal/util/Preconditions") ∈ lw_good := k_of 12 rfl rfl
theorem kz_Pa : (Cond.initialized "HyphenRows$Pattern") ∈ lw_good := k_of 13 rfl rfl
theorem kz_To : (Cond.initialized "HyphenRows$ToldWord") ∈ lw_good := k_of 14 rfl rfl
theorem k_Lw_7 : (Cond.classLink "HyphenRowsLaw" (7 : Nat) "HyphenRows") ∈ lw_good := k_of 15 rfl rfl
theorem kt_HR : (Cond.instantiable "HyphenRows" (13 : Nat)) ∈ lw_good := k_of 16 rfl rfl
theorem k_Lw_9 : (Cond.methodLink "HyphenRowsLaw" (9 : Nat) ({ cls := "HyphenRows", name := "<init>", desc := "()V" } : MethodName)) ∈ lw_good := k_of 17 rfl rfl
theorem ki_HR_init : (Cond.instanceMethod ({ cls := "HyphenRows", name := "<init>", desc := "()V" } : MethodName)) ∈ lw_good := k_of 18 rfl rfl
theorem kc_HR_init : Cond.code y_HR_init b_HR_init 1 (Option.none : Option FieldType) ∈ lw_good := k_of 19 rfl rfl
theorem k_HR_1 : (Cond.methodLink "HyphenRows" (1 : Nat) ({ cls := "java/lang/Object", name := "<init>", desc := "()V" } : MethodName)) ∈ lw_good := k_of 20 rfl rfl
theorem ki_Oj_init : (Cond.instanceMethod ({ cls := "java/lang/Object", name := "<init>", desc := "()V" } : MethodName)) ∈ lw_good := k_of 21 rfl rfl
theorem kc_Oj_init : Cond.code y_Oj_init b_Oj_init 1 (Option.none : Option FieldType) ∈ lw_good := k_of 22 rfl rfl
theorem k_HR_7 : (Cond.classLink "HyphenRows" (7 : Nat) "java/util/ArrayList") ∈ lw_good := k_of 23 rfl rfl
theorem kt_AL : (Cond.instantiable "java/util/ArrayList" (3 : Nat)) ∈ lw_good := k_of 24 rfl rfl
theorem k_HR_9 : (Cond.methodLink "HyphenRows" (9 : Nat) ({ cls := "java/util/ArrayList", name := "<init>", desc := "()V" } : MethodName)) ∈ lw_good := k_of 25 rfl rfl
theorem ki_AL_init : (Cond.instanceMethod ({ cls := "java/util/ArrayList", name := "<init>", desc := "()V" } : MethodName)) ∈ lw_good := k_of 26 rfl rfl
theorem kc_AL_init : Cond.code y_AL_init b_AL_init 1 (Option.none : Option FieldType) ∈ lw_good := k_of 27 rfl rfl
theorem k_AL_1 : (Cond.methodLink "java/util/ArrayList" (1 : Nat) ({ cls := "java/util/AbstractList", name := "<init>", desc := "()V" } : MethodName)) ∈ lw_good := k_of 28 rfl rfl
theorem ki_Ab_init : (Cond.instanceMethod ({ cls := "java/util/AbstractList", name := "<init>", desc := "()V" } : MethodName)) ∈ lw_good := k_of 29 rfl rfl
theorem kc_Ab_init : Cond.code y_Ab_init b_Ab_init 1 (Option.none : Option FieldType) ∈ lw_good := k_of 30 rfl rfl
theorem k_Ab_1 : (Cond.methodLink "java/util/AbstractList" (1 : Nat) ({ cls := "java/util/AbstractCollection", name := "<init>", desc := "()V" } : MethodName)) ∈ lw_good := k_of 31 rfl rfl
theorem ki_Ac_init : (Cond.instanceMethod ({ cls := "java/util/AbstractCollection", name := "<init>", desc := "()V" } : MethodName)) ∈ lw_good := k_of 32 rfl rfl
theorem kc_Ac_init : Cond.code y_Ac_init b_Ac_init 1 (Option.none : Option FieldType) ∈ lw_good := k_of 33 rfl rfl
theorem k_Ac_1 : (Cond.methodLink "java/util/AbstractCollection" (1 : Nat) ({ cls := "java/lang/Object", name := "<init>", desc := "()V" } : MethodName)) ∈ lw_good := k_of 34 rfl rfl
theorem k_AL_39 : (Cond.fieldLink "java/util/ArrayList" (39 : Nat) "java/util/ArrayList" "DEFAULTCAPACITY_EMPTY_ELEMENTDATA" "[Ljava/lang/Object;") ∈ lw_good := k_of 35 rfl rfl
theorem k_AL_9 : (Cond.fieldLink "java/util/ArrayList" (9 : Nat) "java/util/ArrayList" "elementData" "[Ljava/lang/Object;") ∈ lw_good := k_of 37 rfl rfl
theorem k_AL_48 : (Cond.fieldLink "java/util/ArrayList" (48 : Nat) "java/util/ArrayList" "size" "I") ∈ lw_good := k_of 38 rfl rfl
theorem k_Ab_7 : (Cond.fieldLink "java/util/AbstractList" (7 : Nat) "java/util/AbstractList" "modCount" "I") ∈ lw_good := k_of 39 rfl rfl
theorem k_AL_63 : (Cond.fieldLink "java/util/ArrayList" (63 : Nat) "java/util/ArrayList" "modCount" "I") ∈ lw_good := k_of 40 rfl rfl
theorem km_AL_modCount : (Cond.sameField "java/util/ArrayList" "java/util/AbstractList" "modCount" "I") ∈ lw_good := k_of 41 rfl rfl
theorem k_HR_10 : (Cond.fieldLink "HyphenRows" (10 : Nat) "HyphenRows" "languages" "Ljava/util/ArrayList;") ∈ lw_good := k_of 49 rfl rfl
theorem k_HR_16 : (Cond.fieldLink "HyphenRows" (16 : Nat) "HyphenRows" "patterns" "Ljava/util/ArrayList;") ∈ lw_good := k_of 50 rfl rfl
theorem k_HR_19 : (Cond.fieldLink "HyphenRows" (19 : Nat) "HyphenRows" "exceptions" "Ljava/util/ArrayList;") ∈ lw_good := k_of 51 rfl rfl
theorem k_HR_22 : (Cond.fieldLink "HyphenRows" (22 : Nat) "HyphenRows" "patternLetters" "I") ∈ lw_good := k_of 52 rfl rfl
theorem k_HR_26 : (Cond.fieldLink "HyphenRows" (26 : Nat) "HyphenRows" "madeLetters" "[I") ∈ lw_good := k_of 53 rfl rfl
theorem k_HR_30 : (Cond.fieldLink "HyphenRows" (30 : Nat) "HyphenRows" "madeDigits" "[I") ∈ lw_good := k_of 54 rfl rfl
theorem k_HR_33 : (Cond.fieldLink "HyphenRows" (33 : Nat) "HyphenRows" "made" "I") ∈ lw_good := k_of 55 rfl rfl
theorem k_HR_36 : (Cond.fieldLink "HyphenRows" (36 : Nat) "HyphenRows" "word" "[I") ∈ lw_good := k_of 56 rfl rfl
theorem k_HR_39 : (Cond.fieldLink "HyphenRows" (39 : Nat) "HyphenRows" "length" "I") ∈ lw_good := k_of 57 rfl rfl
theorem k_HR_42 : (Cond.fieldLink "HyphenRows" (42 : Nat) "HyphenRows" "row" "[I") ∈ lw_good := k_of 58 rfl rfl
theorem k_HR_45 : (Cond.fieldLink "HyphenRows" (45 : Nat) "HyphenRows" "rowDigits" "[I") ∈ lw_good := k_of 59 rfl rfl
theorem k_HR_48 : (Cond.fieldLink "HyphenRows" (48 : Nat) "HyphenRows" "runPlaces" "[I") ∈ lw_good := k_of 60 rfl rfl
theorem k_HR_51 : (Cond.fieldLink "HyphenRows" (51 : Nat) "HyphenRows" "runPlaceCount" "I") ∈ lw_good := k_of 61 rfl rfl
theorem ka_int : (Cond.arrayClass FieldType.int) ∈ lw_good := k_of 89 rfl rfl
theorem k_Lw_13 : (Cond.methodLink "HyphenRowsLaw" (13 : Nat) ({ cls := "HyphenRows", name := "language", desc := "()I" } : MethodName)) ∈ lw_good := k_of 90 rfl rfl
theorem ki_HR_language : (Cond.instanceMethod ({ cls := "HyphenRows", name := "language", desc := "()I" } : MethodName)) ∈ lw_good := k_of 91 rfl rfl
theorem kv_HR_language : (Cond.selects "HyphenRows" ({ cls := "HyphenRows", name := "language", desc := "()I" } : MethodName) ({ cls := "HyphenRows", name := "language", desc := "()I" } : MethodName)) ∈ lw_good := k_of 92 rfl rfl
theorem kc_HR_language : Cond.code y_HR_language b_HR_language 1 (Option.some FieldType.int) ∈ lw_good := k_of 93 rfl rfl
theorem k_HR_54 : (Cond.methodLink "HyphenRows" (54 : Nat) ({ cls := "java/util/ArrayList", name := "size", desc := "()I" } : MethodName)) ∈ lw_good := k_of 94 rfl rfl
theorem ki_AL_size : (Cond.instanceMethod ({ cls := "java/util/ArrayList", name := "size", desc := "()I" } : MethodName)) ∈ lw_good := k_of 95 rfl rfl
theorem kv_AL_size : (Cond.selects "java/util/ArrayList" ({ cls := "java/util/ArrayList", name := "size", desc := "()I" } : MethodName) ({ cls := "java/util/ArrayList", name := "size", desc := "()I" } : MethodName)) ∈ lw_good := k_of 96 rfl rfl
theorem kc_AL_size : Cond.code y_AL_size b_AL_size 1 (Option.some FieldType.int) ∈ lw_good := k_of 97 rfl rfl
theorem k_HR_58 : (Cond.classLink "HyphenRows" (58 : Nat) "HyphenRows$Language") ∈ lw_good := k_of 98 rfl rfl
theorem kt_La : (Cond.instantiable "HyphenRows$Language" (5 : Nat)) ∈ lw_good := k_of 99 rfl rfl
theorem ki_La_init : (Cond.instanceMethod ({ cls := "HyphenRows$Language", name := "<init>", desc := "()V" } : MethodName)) ∈ lw_good := k_of 101 rfl rfl
theorem kc_La_init : Cond.code y_La_init b_La_init 1 (Option.none : Option FieldType) ∈ lw_good := k_of 102 rfl rfl
theorem k_La_3 : (Cond.methodLink "HyphenRows$Language" (3 : Nat) ({ cls := "java/lang/Object", name := "<init>", desc := "()V" } : MethodName)) ∈ lw_good := k_of 103 rfl rfl
theorem k_La_9 : (Cond.fieldLink "HyphenRows$Language" (9 : Nat) "HyphenRows$Language" "letterOf" "[I") ∈ lw_good := k_of 104 rfl rfl
theorem k_HR_79 : (Cond.fieldLink "HyphenRows" (79 : Nat) "HyphenRows$Language" "letterOf" "[I") ∈ lw_good := k_of 105 rfl rfl
theorem k_La_15 : (Cond.fieldLink "HyphenRows$Language" (15 : Nat) "HyphenRows$Language" "isCapital" "[Z") ∈ lw_good := k_of 106 rfl rfl
theorem k_HR_82 : (Cond.fieldLink "HyphenRows" (82 : Nat) "HyphenRows$Language" "isCapital" "[Z") ∈ lw_good := k_of 107 rfl rfl
theorem k_La_19 : (Cond.fieldLink "HyphenRows$Language" (19 : Nat) "HyphenRows$Language" "leastLeft" "I") ∈ lw_good := k_of 108 rfl rfl
theorem k_HR_89 : (Cond.fieldLink "HyphenRows" (89 : Nat) "HyphenRows$Language" "leastLeft" "I") ∈ lw_good := k_of 109 rfl rfl
theorem k_La_23 : (Cond.fieldLink "HyphenRows$Language" (23 : Nat) "HyphenRows$Language" "leastRight" "I") ∈ lw_good := k_of 110 rfl rfl
theorem k_HR_92 : (Cond.fieldLink "HyphenRows" (92 : Nat) "HyphenRows$Language" "leastRight" "I") ∈ lw_good := k_of 111 rfl rfl
theorem k_La_26 : (Cond.fieldLink "HyphenRows$Language" (26 : Nat) "HyphenRows$Language" "capitalsWhole" "Z") ∈ lw_good := k_of 112 rfl rfl
theorem k_HR_95 : (Cond.fieldLink "HyphenRows" (95 : Nat) "HyphenRows$Language" "capitalsWhole" "Z") ∈ lw_good := k_of 113 rfl rfl
theorem ka_boolean : (Cond.arrayClass FieldType.boolean) ∈ lw_good := k_of 125 rfl rfl
theorem k_HR_61 : (Cond.methodLink "HyphenRows" (61 : Nat) ({ cls := "java/util/ArrayList", name := "add", desc := "(Ljava/lang/Object;)Z" } : MethodName)) ∈ lw_good := k_of 126 rfl rfl
theorem ki_AL_add1 : (Cond.instanceMethod ({ cls := "java/util/ArrayList", name := "add", desc := "(Ljava/lang/Object;)Z" } : MethodName)) ∈ lw_good := k_of 127 rfl rfl
theorem kv_AL_add1 : (Cond.selects "java/util/ArrayList" ({ cls := "java/util/ArrayList", name := "add", desc := "(Ljava/lang/Object;)Z" } : MethodName) ({ cls := "java/util/ArrayList", name := "add", desc := "(Ljava/lang/Object;)Z" } : MethodName)) ∈ lw_good := k_of 128 rfl rfl
theorem kc_AL_add1 : Cond.code y_AL_add1 b_AL_add1 2 (Option.some FieldType.boolean) ∈ lw_good := k_of 129 rfl rfl
theorem k_AL_131 : (Cond.methodLink "java/util/ArrayList" (131 : Nat) ({ cls := "java/util/ArrayList", name := "add", desc := "(Ljava/lang/Object;[Ljava/lang/Object;I)V" } : MethodName)) ∈ lw_good := k_of 130 rfl rfl
theorem ki_AL_add3 : (Cond.instanceMethod ({ cls := "java/util/ArrayList", name := "add", desc := "(Ljava/lang/Object;[Ljava/lang/Object;I)V" } : MethodName)) ∈ lw_good := k_of 132 rfl rfl
theorem kc_AL_add3 : Cond.code y_AL_add3 b_AL_add3 4 (Option.none : Option FieldType) ∈ lw_good := k_of 133 rfl rfl
theorem k_AL_129 : (Cond.methodLink "java/util/ArrayList" (129 : Nat) ({ cls := "java/util/ArrayList", name := "grow", desc := "()[Ljava/lang/Object;" } : MethodName)) ∈ lw_good := k_of 134 rfl rfl
theorem ki_AL_grow0 : (Cond.instanceMethod ({ cls := "java/util/ArrayList", name := "grow", desc := "()[Ljava/lang/Object;" } : MethodName)) ∈ lw_good := k_of 136 rfl rfl
theorem kc_AL_grow0 : Cond.code y_AL_grow0 b_AL_grow0 1 (Option.some (FieldType.array (FieldType.object "java/lang/Object"))) ∈ lw_good := k_of 137 rfl rfl
theorem k_AL_69 : (Cond.methodLink "java/util/ArrayList" (69 : Nat) ({ cls := "java/util/ArrayList", name := "grow", desc := "(I)[Ljava/lang/Object;" } : MethodName)) ∈ lw_good := k_of 138 rfl rfl
theorem ki_AL_grow1 : (Cond.instanceMethod ({ cls := "java/util/ArrayList", name := "grow", desc := "(I)[Ljava/lang/Object;" } : MethodName)) ∈ lw_good := k_of 140 rfl rfl
theorem kc_AL_grow1 : Cond.code y_AL_grow1 b_AL_grow1 4 (Option.some (FieldType.array (FieldType.object "java/lang/Object"))) ∈ lw_good := k_of 141 rfl rfl
theorem k_AL_73 : (Cond.methodLink "java/util/ArrayList" (73 : Nat) ({ cls := "jdk/internal/util/ArraysSupport", name := "newLength", desc := "(III)I" } : MethodName)) ∈ lw_good := k_of 142 rfl rfl
theorem ks_As_newLength : (Cond.static ({ cls := "jdk/internal/util/ArraysSupport", name := "newLength", desc := "(III)I" } : MethodName)) ∈ lw_good := k_of 143 rfl rfl
theorem kc_As_newLength : Cond.code y_As_newLength b_As_newLength 4 (Option.some FieldType.int) ∈ lw_good := k_of 144 rfl rfl
theorem k_As_194 : (Cond.methodLink "jdk/internal/util/ArraysSupport" (194 : Nat) ({ cls := "java/lang/Math", name := "max", desc := "(II)I" } : MethodName)) ∈ lw_good := k_of 145 rfl rfl
theorem ks_Ma_max : (Cond.static ({ cls := "java/lang/Math", name := "max", desc := "(II)I" } : MethodName)) ∈ lw_good := k_of 146 rfl rfl
theorem kc_Ma_max : Cond.code y_Ma_max b_Ma_max 2 (Option.some FieldType.int) ∈ lw_good := k_of 147 rfl rfl
theorem kk_As_200 : (Cond.constant "jdk/internal/util/ArraysSupport" (200 : Nat) (2147483639 : Int32)) ∈ lw_good := k_of 148 rfl rfl
theorem k_As_201 : (Cond.methodLink "jdk/internal/util/ArraysSupport" (201 : Nat) ({ cls := "jdk/internal/util/ArraysSupport", name := "hugeLength", desc := "(II)I" } : MethodName)) ∈ lw_good := k_of 149 rfl rfl
theorem ks_As_hugeLength : (Cond.static ({ cls := "jdk/internal/util/ArraysSupport", name := "hugeLength", desc := "(II)I" } : MethodName)) ∈ lw_good := k_of 150 rfl rfl
theorem kc_As_hugeLength : Cond.code y_As_hugeLength b_As_hugeLength 3 (Option.some FieldType.int) ∈ lw_good := k_of 151 rfl rfl
theorem k_AL_66 : (Cond.methodLink "java/util/ArrayList" (66 : Nat) ({ cls := "java/util/Arrays", name := "copyOf", desc := "([Ljava/lang/Object;I)[Ljava/lang/Object;" } : MethodName)) ∈ lw_good := k_of 152 rfl rfl
theorem ks_Ar_copyOf2 : (Cond.static ({ cls := "java/util/Arrays", name := "copyOf", desc := "([Ljava/lang/Object;I)[Ljava/lang/Object;" } : MethodName)) ∈ lw_good := k_of 153 rfl rfl
theorem kc_Ar_copyOf2 : Cond.code y_Ar_copyOf2 b_Ar_copyOf2 2 (Option.some (FieldType.array (FieldType.object "java/lang/Object"))) ∈ lw_good := k_of 154 rfl rfl
theorem k_Ar_86 : (Cond.methodLink "java/util/Arrays" (86 : Nat) ({ cls := "java/lang/Object", name := "getClass", desc := "()Ljava/lang/Class;" } : MethodName)) ∈ lw_good := k_of 155 rfl rfl
theorem ki_Oj_getClass : (Cond.instanceMethod ({ cls := "java/lang/Object", name := "getClass", desc := "()Ljava/lang/Class;" } : MethodName)) ∈ lw_good := k_of 156 rfl rfl
theorem km_Oj_getClass : (Cond.sameMethod "java/lang/Object" "java/lang/Object" "getClass" "()Ljava/lang/Class;") ∈ lw_good := k_of 157 rfl rfl
theorem kv_HR_Oj_getClass : (Cond.selects "HyphenRows" ({ cls := "java/lang/Object", name := "getClass", desc := "()Ljava/lang/Class;" } : MethodName) ({ cls := "java/lang/Object", name := "getClass", desc := "()Ljava/lang/Class;" } : MethodName)) ∈ lw_good := k_of 158 rfl rfl
theorem kv_La_Oj_getClass : (Cond.selects "HyphenRows$Language" ({ cls := "java/lang/Object", name := "getClass", desc := "()Ljava/lang/Class;" } : MethodName) ({ cls := "java/lang/Object", name := "getClass", desc := "()Ljava/lang/Class;" } : MethodName)) ∈ lw_good := k_of 159 rfl rfl
theorem kv_Pa_Oj_getClass : (Cond.selects "HyphenRows$Pattern" ({ cls := "java/lang/Object", name := "getClass", desc := "()Ljava/lang/Class;" } : MethodName) ({ cls := "java/lang/Object", name := "getClass", desc := "()Ljava/lang/Class;" } : MethodName)) ∈ lw_good := k_of 160 rfl rfl
theorem kv_To_Oj_getClass : (Cond.selects "HyphenRows$ToldWord" ({ cls := "java/lang/Object", name := "getClass", desc := "()Ljava/lang/Class;" } : MethodName) ({ cls := "java/lang/Object", name := "getClass", desc := "()Ljava/lang/Class;" } : MethodName)) ∈ lw_good := k_of 161 rfl rfl
theorem kv_Mo_Oj_getClass : (Cond.selects "HyphenRowsModel" ({ cls := "java/lang/Object", name := "getClass", desc := "()Ljava/lang/Class;" } : MethodName) ({ cls := "java/lang/Object", name := "getClass", desc := "()Ljava/lang/Class;" } : MethodName)) ∈ lw_good := k_of 162 rfl rfl
theorem kv_AL_Oj_getClass : (Cond.selects "java/util/ArrayList" ({ cls := "java/lang/Object", name := "getClass", desc := "()Ljava/lang/Class;" } : MethodName) ({ cls := "java/lang/Object", name := "getClass", desc := "()Ljava/lang/Class;" } : MethodName)) ∈ lw_good := k_of 163 rfl rfl
theorem kn_Oj_getClass : (Cond.native ({ cls := "java/lang/Object", name := "getClass", desc := "()Ljava/lang/Class;" } : MethodName)) ∈ lw_good := k_of 164 rfl rfl
theorem k_Ar_300 : (Cond.methodLink "java/util/Arrays" (300 : Nat) ({ cls := "java/util/Arrays", name := "copyOf", desc := "([Ljava/lang/Object;ILjava/lang/Class;)[Ljava/lang/Object;" } : MethodName)) ∈ lw_good := k_of 165 rfl rfl
theorem ks_Ar_copyOf3 : (Cond.static ({ cls := "java/util/Arrays", name := "copyOf", desc := "([Ljava/lang/Object;ILjava/lang/Class;)[Ljava/lang/Object;" } : MethodName)) ∈ lw_good := k_of 166 rfl rfl
theorem kc_Ar_copyOf3 : Cond.code y_Ar_copyOf3 b_Ar_copyOf3 4 (Option.some (FieldType.array (FieldType.object "java/lang/Object"))) ∈ lw_good := k_of 167 rfl rfl
theorem k_Ar_110 : (Cond.classLink "java/util/Arrays" (110 : Nat) "[Ljava/lang/Object;") ∈ lw_good := k_of 168 rfl rfl
theorem k_Ar_2 : (Cond.classLink "java/util/Arrays" (2 : Nat) "java/lang/Object") ∈ lw_good := k_of 170 rfl rfl
theorem k_Ar_304 : (Cond.methodLink "java/util/Arrays" (304 : Nat) ({ cls := "java/lang/Math", name := "min", desc := "(II)I" } : MethodName)) ∈ lw_good := k_of 171 rfl rfl
theorem ks_Ma_min : (Cond.static ({ cls := "java/lang/Math", name := "min", desc := "(II)I" } : MethodName)) ∈ lw_good := k_of 172 rfl rfl
theorem kc_Ma_min : Cond.code y_Ma_min b_Ma_min 2 (Option.some FieldType.int) ∈ lw_good := k_of 173 rfl rfl
theorem k_Ar_150 : (Cond.methodLink "java/util/Arrays" (150 : Nat) ({ cls := "java/lang/System", name := "arraycopy", desc := "(Ljava/lang/Object;ILjava/lang/Object;II)V" } : MethodName)) ∈ lw_good := k_of 174 rfl rfl
theorem ks_Sy_arraycopy : (Cond.static ({ cls := "java/lang/System", name := "arraycopy", desc := "(Ljava/lang/Object;ILjava/lang/Object;II)V" } : MethodName)) ∈ lw_good := k_of 175 rfl rfl
theorem kn_Sy_arraycopy : (Cond.native ({ cls := "java/lang/System", name := "arraycopy", desc := "(Ljava/lang/Object;ILjava/lang/Object;II)V" } : MethodName)) ∈ lw_good := k_of 176 rfl rfl
theorem k_AL_79 : (Cond.methodLink "java/util/ArrayList" (79 : Nat) ({ cls := "java/lang/Math", name := "max", desc := "(II)I" } : MethodName)) ∈ lw_good := k_of 177 rfl rfl
theorem k_AL_7 : (Cond.classLink "java/util/ArrayList" (7 : Nat) "java/lang/Object") ∈ lw_good := k_of 178 rfl rfl
theorem k_Lw_18 : (Cond.methodLink "HyphenRowsLaw" (18 : Nat) ({ cls := "HyphenRows", name := "code", desc := "(IIIZ)I" } : MethodName)) ∈ lw_good := k_of 179 rfl rfl
theorem ki_HR_code : (Cond.instanceMethod ({ cls := "HyphenRows", name := "code", desc := "(IIIZ)I" } : MethodName)) ∈ lw_good := k_of 180 rfl rfl
theorem kv_HR_code : (Cond.selects "HyphenRows" ({ cls := "HyphenRows", name := "code", desc := "(IIIZ)I" } : MethodName) ({ cls := "HyphenRows", name := "code", desc := "(IIIZ)I" } : MethodName)) ∈ lw_good := k_of 181 rfl rfl
theorem kc_HR_code : Cond.code y_HR_code b_HR_code 6 (Option.some FieldType.int) ∈ lw_good := k_of 182 rfl rfl
theorem k_HR_65 : (Cond.methodLink "HyphenRows" (65 : Nat) ({ cls := "HyphenRows", name := "isLanguage", desc := "(I)Z" } : MethodName)) ∈ lw_good := k_of 183 rfl rfl
theorem ki_HR_isLanguage : (Cond.instanceMethod ({ cls := "HyphenRows", name := "isLanguage", desc := "(I)Z" } : MethodName)) ∈ lw_good := k_of 185 rfl rfl
theorem kc_HR_isLanguage : Cond.code y_HR_isLanguage b_HR_isLanguage 2 (Option.some FieldType.boolean) ∈ lw_good := k_of 186 rfl rfl
theorem k_HR_69 : (Cond.methodLink "HyphenRows" (69 : Nat) ({ cls := "HyphenRows", name := "isSign", desc := "(I)Z" } : MethodName)) ∈ lw_good := k_of 187 rfl rfl
theorem ks_HR_isSign : (Cond.static ({ cls := "HyphenRows", name := "isSign", desc := "(I)Z" } : MethodName)) ∈ lw_good := k_of 188 rfl rfl
theorem kc_HR_isSign : Cond.code y_HR_isSign b_HR_isSign 1 (Option.some FieldType.boolean) ∈ lw_good := k_of 189 rfl rfl
theorem k_HR_72 : (Cond.methodLink "HyphenRows" (72 : Nat) ({ cls := "HyphenRows", name := "isLetterOrZero", desc := "(I)Z" } : MethodName)) ∈ lw_good := k_of 190 rfl rfl
theorem ks_HR_isLetterOrZero : (Cond.static ({ cls := "HyphenRows", name := "isLetterOrZero", desc := "(I)Z" } : MethodName)) ∈ lw_good := k_of 191 rfl rfl
theorem kc_HR_isLetterOrZero : Cond.code y_HR_isLetterOrZero b_HR_isLetterOrZero 1 (Option.some FieldType.boolean) ∈ lw_good := k_of 192 rfl rfl
theorem k_HR_75 : (Cond.methodLink "HyphenRows" (75 : Nat) ({ cls := "java/util/ArrayList", name := "get", desc := "(I)Ljava/lang/Object;" } : MethodName)) ∈ lw_good := k_of 193 rfl rfl
theorem ki_AL_get : (Cond.instanceMethod ({ cls := "java/util/ArrayList", name := "get", desc := "(I)Ljava/lang/Object;" } : MethodName)) ∈ lw_good := k_of 194 rfl rfl
theorem kv_AL_get : (Cond.selects "java/util/ArrayList" ({ cls := "java/util/ArrayList", name := "get", desc := "(I)Ljava/lang/Object;" } : MethodName) ({ cls := "java/util/ArrayList", name := "get", desc := "(I)Ljava/lang/Object;" } : MethodName)) ∈ lw_good := k_of 195 rfl rfl
theorem kc_AL_get : Cond.code y_AL_get b_AL_get 2 (Option.some (FieldType.object "java/lang/Object")) ∈ lw_good := k_of 196 rfl rfl
theorem k_AL_118 : (Cond.methodLink "java/util/ArrayList" (118 : Nat) ({ cls := "java/util/Objects", name := "checkIndex", desc := "(II)I" } : MethodName)) ∈ lw_good := k_of 197 rfl rfl
theorem ks_Ob_checkIndex : (Cond.static ({ cls := "java/util/Objects", name := "checkIndex", desc := "(II)I" } : MethodName)) ∈ lw_good := k_of 198 rfl rfl
theorem kc_Ob_checkIndex : Cond.code y_Ob_checkIndex b_Ob_checkIndex 2 (Option.some FieldType.int) ∈ lw_good := k_of 199 rfl rfl
theorem k_Ob_105 : (Cond.methodLink "java/util/Objects" (105 : Nat) ({ cls := "jdk/internal/util/Preconditions", name := "checkIndex", desc := "(IILjava/util/function/BiFunction;)I" } : MethodName)) ∈ lw_good := k_of 200 rfl rfl
theorem ks_Pc_checkIndex : (Cond.static ({ cls := "jdk/internal/util/Preconditions", name := "checkIndex", desc := "(IILjava/util/function/BiFunction;)I" } : MethodName)) ∈ lw_good := k_of 201 rfl rfl
theorem kc_Pc_checkIndex : Cond.code y_Pc_checkIndex b_Pc_checkIndex 3 (Option.some FieldType.int) ∈ lw_good := k_of 202 rfl rfl
theorem k_AL_123 : (Cond.methodLink "java/util/ArrayList" (123 : Nat) ({ cls := "java/util/ArrayList", name := "elementData", desc := "(I)Ljava/lang/Object;" } : MethodName)) ∈ lw_good := k_of 203 rfl rfl
theorem ki_AL_elementData : (Cond.instanceMethod ({ cls := "java/util/ArrayList", name := "elementData", desc := "(I)Ljava/lang/Object;" } : MethodName)) ∈ lw_good := k_of 204 rfl rfl
theorem kv_AL_elementData : (Cond.selects "java/util/ArrayList" ({ cls := "java/util/ArrayList", name := "elementData", desc := "(I)Ljava/lang/Object;" } : MethodName) ({ cls := "java/util/ArrayList", name := "elementData", desc := "(I)Ljava/lang/Object;" } : MethodName)) ∈ lw_good := k_of 205 rfl rfl
theorem kc_AL_elementData : Cond.code y_AL_elementData b_AL_elementData 2 (Option.some (FieldType.object "java/lang/Object")) ∈ lw_good := k_of 206 rfl rfl
theorem k_Lw_23 : (Cond.methodLink "HyphenRowsLaw" (23 : Nat) ({ cls := "HyphenRows", name := "ends", desc := "(IIIZ)I" } : MethodName)) ∈ lw_good := k_of 207 rfl rfl
theorem ki_HR_ends : (Cond.instanceMethod ({ cls := "HyphenRows", name := "ends", desc := "(IIIZ)I" } : MethodName)) ∈ lw_good := k_of 208 rfl rfl
theorem kv_HR_ends : (Cond.selects "HyphenRows" ({ cls := "HyphenRows", name := "ends", desc := "(IIIZ)I" } : MethodName) ({ cls := "HyphenRows", name := "ends", desc := "(IIIZ)I" } : MethodName)) ∈ lw_good := k_of 209 rfl rfl
theorem kc_HR_ends : Cond.code y_HR_ends b_HR_ends 6 (Option.some FieldType.int) ∈ lw_good := k_of 210 rfl rfl
theorem k_HR_86 : (Cond.methodLink "HyphenRows" (86 : Nat) ({ cls := "HyphenRows", name := "isLeast", desc := "(I)Z" } : MethodName)) ∈ lw_good := k_of 211 rfl rfl
theorem ks_HR_isLeast : (Cond.static ({ cls := "HyphenRows", name := "isLeast", desc := "(I)Z" } : MethodName)) ∈ lw_good := k_of 212 rfl rfl
theorem kc_HR_isLeast : Cond.code y_HR_isLeast b_HR_isLeast 1 (Option.some FieldType.boolean) ∈ lw_good := k_of 213 rfl rfl
theorem k_Lw_27 : (Cond.methodLink "HyphenRowsLaw" (27 : Nat) ({ cls := "HyphenRows", name := "next", desc := "(II)I" } : MethodName)) ∈ lw_good := k_of 214 rfl rfl
theorem ki_HR_next : (Cond.instanceMethod ({ cls := "HyphenRows", name := "next", desc := "(II)I" } : MethodName)) ∈ lw_good := k_of 215 rfl rfl
theorem kv_HR_next : (Cond.selects "HyphenRows" ({ cls := "HyphenRows", name := "next", desc := "(II)I" } : MethodName) ({ cls := "HyphenRows", name := "next", desc := "(II)I" } : MethodName)) ∈ lw_good := k_of 216 rfl rfl
theorem kc_HR_next : Cond.code y_HR_next b_HR_next 3 (Option.some FieldType.int) ∈ lw_good := k_of 217 rfl rfl
theorem k_HR_99 : (Cond.methodLink "HyphenRows" (99 : Nat) ({ cls := "HyphenRows", name := "isDigit", desc := "(I)Z" } : MethodName)) ∈ lw_good := k_of 218 rfl rfl
theorem ks_HR_isDigit : (Cond.static ({ cls := "HyphenRows", name := "isDigit", desc := "(I)Z" } : MethodName)) ∈ lw_good := k_of 219 rfl rfl
theorem kc_HR_isDigit : Cond.code y_HR_isDigit b_HR_isDigit 1 (Option.some FieldType.boolean) ∈ lw_good := k_of 220 rfl rfl
theorem k_Lw_32 : (Cond.methodLink "HyphenRowsLaw" (32 : Nat) ({ cls := "HyphenRows", name := "pattern", desc := "(II)I" } : MethodName)) ∈ lw_good := k_of 221 rfl rfl
theorem ki_HR_pattern : (Cond.instanceMethod ({ cls := "HyphenRows", name := "pattern", desc := "(II)I" } : MethodName)) ∈ lw_good := k_of 222 rfl rfl
theorem kv_HR_pattern : (Cond.selects "HyphenRows" ({ cls := "HyphenRows", name := "pattern", desc := "(II)I" } : MethodName) ({ cls := "HyphenRows", name := "pattern", desc := "(II)I" } : MethodName)) ∈ lw_good := k_of 223 rfl rfl
theorem kc_HR_pattern : Cond.code y_HR_pattern b_HR_pattern 5 (Option.some FieldType.int) ∈ lw_good := k_of 224 rfl rfl
theorem k_HR_102 : (Cond.methodLink "HyphenRows" (102 : Nat) ({ cls := "HyphenRows", name := "isPatternRow", desc := "(I)Z" } : MethodName)) ∈ lw_good := k_of 225 rfl rfl
theorem ki_HR_isPatternRow : (Cond.instanceMethod ({ cls := "HyphenRows", name := "isPatternRow", desc := "(I)Z" } : MethodName)) ∈ lw_good := k_of 227 rfl rfl
theorem kc_HR_isPatternRow : Cond.code y_HR_isPatternRow b_HR_isPatternRow 4 (Option.some FieldType.boolean) ∈ lw_good := k_of 228 rfl rfl
theorem k_HR_105 : (Cond.methodLink "HyphenRows" (105 : Nat) ({ cls := "HyphenRows", name := "patternWithMadeRow", desc := "(II)I" } : MethodName)) ∈ lw_good := k_of 229 rfl rfl
theorem ki_HR_patternWithMadeRow : (Cond.instanceMethod ({ cls := "HyphenRows", name := "patternWithMadeRow", desc := "(II)I" } : MethodName)) ∈ lw_good := k_of 231 rfl rfl
theorem kc_HR_patternWithMadeRow : Cond.code y_HR_patternWithMadeRow b_HR_patternWithMadeRow 5 (Option.some FieldType.int) ∈ lw_good := k_of 232 rfl rfl
theorem k_HR_109 : (Cond.classLink "HyphenRows" (109 : Nat) "HyphenRows$Pattern") ∈ lw_good := k_of 233 rfl rfl
theorem k_HR_161 : (Cond.methodLink "HyphenRows" (161 : Nat) ({ cls := "HyphenRows", name := "standsAt", desc := "([I[II)Z" } : MethodName)) ∈ lw_good := k_of 234 rfl rfl
theorem ks_HR_standsAt : (Cond.static ({ cls := "HyphenRows", name := "standsAt", desc := "([I[II)Z" } : MethodName)) ∈ lw_good := k_of 235 rfl rfl
theorem kc_HR_standsAt : Cond.code y_HR_standsAt b_HR_standsAt 4 (Option.some FieldType.boolean) ∈ lw_good := k_of 236 rfl rfl
theorem k_HR_114 : (Cond.methodLink "HyphenRows" (114 : Nat) ({ cls := "java/lang/System", name := "arraycopy", desc := "(Ljava/lang/Object;ILjava/lang/Object;II)V" } : MethodName)) ∈ lw_good := k_of 237 rfl rfl
theorem k_HR_120 : (Cond.methodLink "HyphenRows" (120 : Nat) ({ cls := "HyphenRows", name := "addPattern", desc := "(II)I" } : MethodName)) ∈ lw_good := k_of 238 rfl rfl
theorem ki_HR_addPattern : (Cond.instanceMethod ({ cls := "HyphenRows", name := "addPattern", desc := "(II)I" } : MethodName)) ∈ lw_good := k_of 240 rfl rfl
theorem kc_HR_addPattern : Cond.code y_HR_addPattern b_HR_addPattern 5 (Option.some FieldType.int) ∈ lw_good := k_of 241 rfl rfl
theorem k_HR_165 : (Cond.methodLink "HyphenRows" (165 : Nat) ({ cls := "java/util/Arrays", name := "copyOf", desc := "([II)[I" } : MethodName)) ∈ lw_good := k_of 242 rfl rfl
theorem ks_Ar_copyOfI : (Cond.static ({ cls := "java/util/Arrays", name := "copyOf", desc := "([II)[I" } : MethodName)) ∈ lw_good := k_of 243 rfl rfl
theorem kc_Ar_copyOfI : Cond.code y_Ar_copyOfI b_Ar_copyOfI 3 (Option.some (FieldType.array FieldType.int)) ∈ lw_good := k_of 244 rfl rfl
theorem k_Ar_316 : (Cond.methodLink "java/util/Arrays" (316 : Nat) ({ cls := "[I", name := "clone", desc := "()Ljava/lang/Object;" } : MethodName)) ∈ lw_good := k_of 245 rfl rfl
theorem km_Ia_clone : (Cond.sameMethod "[I" "java/lang/Object" "clone" "()Ljava/lang/Object;") ∈ lw_good := k_of 246 rfl rfl
theorem kn_Oj_clone : (Cond.native ({ cls := "java/lang/Object", name := "clone", desc := "()Ljava/lang/Object;" } : MethodName)) ∈ lw_good := k_of 247 rfl rfl
theorem ki_Oj_clone : (Cond.instanceMethod ({ cls := "java/lang/Object", name := "clone", desc := "()Ljava/lang/Object;" } : MethodName)) ∈ lw_good := k_of 248 rfl rfl
theorem kv_Ia_clone : (Cond.selects "[I" ({ cls := "[I", name := "clone", desc := "()Ljava/lang/Object;" } : MethodName) ({ cls := "java/lang/Object", name := "clone", desc := "()Ljava/lang/Object;" } : MethodName)) ∈ lw_good := k_of 249 rfl rfl
theorem k_Ar_317 : (Cond.classLink "java/util/Arrays" (317 : Nat) "[I") ∈ lw_good := k_of 251 rfl rfl
theorem kt_Pa : (Cond.instantiable "HyphenRows$Pattern" (3 : Nat)) ∈ lw_good := k_of 252 rfl rfl
theorem k_HR_169 : (Cond.methodLink "HyphenRows" (169 : Nat) ({ cls := "HyphenRows$Pattern", name := "<init>", desc := "(I[I[I)V" } : MethodName)) ∈ lw_good := k_of 253 rfl rfl
theorem ki_Pa_init : (Cond.instanceMethod ({ cls := "HyphenRows$Pattern", name := "<init>", desc := "(I[I[I)V" } : MethodName)) ∈ lw_good := k_of 254 rfl rfl
theorem kc_Pa_init : Cond.code y_Pa_init b_Pa_init 4 (Option.none : Option FieldType) ∈ lw_good := k_of 255 rfl rfl
theorem k_Pa_1 : (Cond.methodLink "HyphenRows$Pattern" (1 : Nat) ({ cls := "java/lang/Object", name := "<init>", desc := "()V" } : MethodName)) ∈ lw_good := k_of 256 rfl rfl
theorem k_Pa_7 : (Cond.fieldLink "HyphenRows$Pattern" (7 : Nat) "HyphenRows$Pattern" "language" "I") ∈ lw_good := k_of 257 rfl rfl
theorem k_HR_155 : (Cond.fieldLink "HyphenRows" (155 : Nat) "HyphenRows$Pattern" "language" "I") ∈ lw_good := k_of 258 rfl rfl
theorem k_Pa_13 : (Cond.fieldLink "HyphenRows$Pattern" (13 : Nat) "HyphenRows$Pattern" "letters" "[I") ∈ lw_good := k_of 259 rfl rfl
theorem k_HR_158 : (Cond.fieldLink "HyphenRows" (158 : Nat) "HyphenRows$Pattern" "letters" "[I") ∈ lw_good := k_of 260 rfl rfl
theorem k_Pa_17 : (Cond.fieldLink "HyphenRows$Pattern" (17 : Nat) "HyphenRows$Pattern" "digits" "[I") ∈ lw_good := k_of 261 rfl rfl
theorem k_HR_111 : (Cond.fieldLink "HyphenRows" (111 : Nat) "HyphenRows$Pattern" "digits" "[I") ∈ lw_good := k_of 262 rfl rfl
theorem k_Lw_36 : (Cond.methodLink "HyphenRowsLaw" (36 : Nat) ({ cls := "HyphenRows", name := "sign", desc := "(I)I" } : MethodName)) ∈ lw_good := k_of 270 rfl rfl
theorem ki_HR_sign : (Cond.instanceMethod ({ cls := "HyphenRows", name := "sign", desc := "(I)I" } : MethodName)) ∈ lw_good := k_of 271 rfl rfl
theorem kv_HR_sign : (Cond.selects "HyphenRows" ({ cls := "HyphenRows", name := "sign", desc := "(I)I" } : MethodName) ({ cls := "HyphenRows", name := "sign", desc := "(I)I" } : MethodName)) ∈ lw_good := k_of 272 rfl rfl
theorem kc_HR_sign : Cond.code y_HR_sign b_HR_sign 2 (Option.some FieldType.int) ∈ lw_good := k_of 273 rfl rfl
theorem k_Lw_41 : (Cond.methodLink "HyphenRowsLaw" (41 : Nat) ({ cls := "HyphenRows", name := "clear", desc := "()I" } : MethodName)) ∈ lw_good := k_of 274 rfl rfl
theorem ki_HR_clear : (Cond.instanceMethod ({ cls := "HyphenRows", name := "clear", desc := "()I" } : MethodName)) ∈ lw_good := k_of 275 rfl rfl
theorem kv_HR_clear : (Cond.selects "HyphenRows" ({ cls := "HyphenRows", name := "clear", desc := "()I" } : MethodName) ({ cls := "HyphenRows", name := "clear", desc := "()I" } : MethodName)) ∈ lw_good := k_of 276 rfl rfl
theorem kc_HR_clear : Cond.code y_HR_clear b_HR_clear 2 (Option.some FieldType.int) ∈ lw_good := k_of 277 rfl rfl
theorem k_Lw_45 : (Cond.methodLink "HyphenRowsLaw" (45 : Nat) ({ cls := "HyphenRows", name := "exception", desc := "(II)I" } : MethodName)) ∈ lw_good := k_of 278 rfl rfl
theorem ki_HR_exception : (Cond.instanceMethod ({ cls := "HyphenRows", name := "exception", desc := "(II)I" } : MethodName)) ∈ lw_good := k_of 279 rfl rfl
theorem kv_HR_exception : (Cond.selects "HyphenRows" ({ cls := "HyphenRows", name := "exception", desc := "(II)I" } : MethodName) ({ cls := "HyphenRows", name := "exception", desc := "(II)I" } : MethodName)) ∈ lw_good := k_of 280 rfl rfl
theorem kc_HR_exception : Cond.code y_HR_exception b_HR_exception 4 (Option.some FieldType.int) ∈ lw_good := k_of 281 rfl rfl
theorem k_HR_123 : (Cond.methodLink "HyphenRows" (123 : Nat) ({ cls := "HyphenRows", name := "spellWord", desc := "(LHyphenRows$Language;)Z" } : MethodName)) ∈ lw_good := k_of 282 rfl rfl
theorem ki_HR_spellWord : (Cond.instanceMethod ({ cls := "HyphenRows", name := "spellWord", desc := "(LHyphenRows$Language;)Z" } : MethodName)) ∈ lw_good := k_of 284 rfl rfl
theorem kc_HR_spellWord : Cond.code y_HR_spellWord b_HR_spellWord 4 (Option.some FieldType.boolean) ∈ lw_good := k_of 285 rfl rfl
theorem k_HR_127 : (Cond.methodLink "HyphenRows" (127 : Nat) ({ cls := "HyphenRows", name := "exceptionWithWordsLetters", desc := "(I)I" } : MethodName)) ∈ lw_good := k_of 286 rfl rfl
theorem ki_HR_exceptionWithWordsLetters : (Cond.instanceMethod ({ cls := "HyphenRows", name := "exceptionWithWordsLetters", desc := "(I)I" } : MethodName)) ∈ lw_good := k_of 288 rfl rfl
theorem kc_HR_exceptionWithWordsLetters : Cond.code y_HR_exceptionWithWordsLetters b_HR_exceptionWithWordsLetters 4 (Option.some FieldType.int) ∈ lw_good := k_of 289 rfl rfl
theorem k_HR_131 : (Cond.classLink "HyphenRows" (131 : Nat) "HyphenRows$ToldWord") ∈ lw_good := k_of 290 rfl rfl
theorem kt_To : (Cond.instantiable "HyphenRows$ToldWord" (3 : Nat)) ∈ lw_good := k_of 291 rfl rfl
theorem k_HR_136 : (Cond.methodLink "HyphenRows" (136 : Nat) ({ cls := "java/util/Arrays", name := "copyOfRange", desc := "([III)[I" } : MethodName)) ∈ lw_good := k_of 292 rfl rfl
theorem ks_Ar_copyOfRange : (Cond.static ({ cls := "java/util/Arrays", name := "copyOfRange", desc := "([III)[I" } : MethodName)) ∈ lw_good := k_of 293 rfl rfl
theorem kc_Ar_copyOfRange : Cond.code y_Ar_copyOfRange b_Ar_copyOfRange 3 (Option.some (FieldType.array FieldType.int)) ∈ lw_good := k_of 294 rfl rfl
theorem k_Ar_351 : (Cond.methodLink "java/util/Arrays" (351 : Nat) ({ cls := "java/util/Arrays", name := "copyOfRangeInt", desc := "([III)[I" } : MethodName)) ∈ lw_good := k_of 295 rfl rfl
theorem ks_Ar_copyOfRangeInt : (Cond.static ({ cls := "java/util/Arrays", name := "copyOfRangeInt", desc := "([III)[I" } : MethodName)) ∈ lw_good := k_of 296 rfl rfl
theorem kc_Ar_copyOfRangeInt : Cond.code y_Ar_copyOfRangeInt b_Ar_copyOfRangeInt 5 (Option.some (FieldType.array FieldType.int)) ∈ lw_good := k_of 297 rfl rfl
theorem k_Ar_343 : (Cond.methodLink "java/util/Arrays" (343 : Nat) ({ cls := "java/util/Arrays", name := "checkLength", desc := "(II)V" } : MethodName)) ∈ lw_good := k_of 298 rfl rfl
theorem ks_Ar_checkLength : (Cond.static ({ cls := "java/util/Arrays", name := "checkLength", desc := "(II)V" } : MethodName)) ∈ lw_good := k_of 299 rfl rfl
set_option maxRecDepth 20000 in
theorem kc_Ar_checkLength : Cond.code y_Ar_checkLength b_Ar_checkLength 2 (Option.none : Option FieldType) ∈ lw_good := k_of 300 rfl rfl
set_option maxRecDepth 20000 in
theorem k_HR_142 : (Cond.methodLink "HyphenRows" (142 : Nat) ({ cls := "HyphenRows$ToldWord", name := "<init>", desc := "(I[II)V" } : MethodName)) ∈ lw_good := k_of 301 rfl rfl
set_option maxRecDepth 20000 in
theorem ki_To_init : (Cond.instanceMethod ({ cls := "HyphenRows$ToldWord", name := "<init>", desc := "(I[II)V" } : MethodName)) ∈ lw_good := k_of 302 rfl rfl
set_option maxRecDepth 20000 in
theorem kc_To_init : Cond.code y_To_init b_To_init 4 (Option.none : Option FieldType) ∈ lw_good := k_of 303 rfl rfl
set_option maxRecDepth 20000 in
theorem k_To_1 : (Cond.methodLink "HyphenRows$ToldWord" (1 : Nat) ({ cls := "java/lang/Object", name := "<init>", desc := "()V" } : MethodName)) ∈ lw_good := k_of 304 rfl rfl
set_option maxRecDepth 20000 in
theorem k_To_7 : (Cond.fieldLink "HyphenRows$ToldWord" (7 : Nat) "HyphenRows$ToldWord" "language" "I") ∈ lw_good := k_of 305 rfl rfl
set_option maxRecDepth 20000 in
theorem k_HR_172 : (Cond.fieldLink "HyphenRows" (172 : Nat) "HyphenRows$ToldWord" "language" "I") ∈ lw_good := k_of 306 rfl rfl
set_option maxRecDepth 20000 in
theorem k_To_13 : (Cond.fieldLink "HyphenRows$ToldWord" (13 : Nat) "HyphenRows$ToldWord" "letters" "[I") ∈ lw_good := k_of 307 rfl rfl
set_option maxRecDepth 20000 in
theorem k_HR_173 : (Cond.fieldLink "HyphenRows" (173 : Nat) "HyphenRows$ToldWord" "letters" "[I") ∈ lw_good := k_of 308 rfl rfl
set_option maxRecDepth 20000 in
theorem k_To_17 : (Cond.fieldLink "HyphenRows$ToldWord" (17 : Nat) "HyphenRows$ToldWord" "places" "I") ∈ lw_good := k_of 309 rfl rfl
set_option maxRecDepth 20000 in
theorem k_HR_133 : (Cond.fieldLink "HyphenRows" (133 : Nat) "HyphenRows$ToldWord" "places" "I") ∈ lw_good := k_of 310 rfl rfl
set_option maxRecDepth 20000 in
theorem k_Lw_49 : (Cond.methodLink "HyphenRowsLaw" (49 : Nat) ({ cls := "HyphenRows", name := "drop", desc := "(I)I" } : MethodName)) ∈ lw_good := k_of 318 rfl rfl
set_option maxRecDepth 20000 in
theorem ki_HR_drop : (Cond.instanceMethod ({ cls := "HyphenRows", name := "drop", desc := "(I)I" } : MethodName)) ∈ lw_good := k_of 319 rfl rfl
set_option maxRecDepth 20000 in
theorem kv_HR_drop : (Cond.selects "HyphenRows" ({ cls := "HyphenRows", name := "drop", desc := "(I)I" } : MethodName) ({ cls := "HyphenRows", name := "drop", desc := "(I)I" } : MethodName)) ∈ lw_good := k_of 320 rfl rfl
set_option maxRecDepth 20000 in
theorem kc_HR_drop : Cond.code y_HR_drop b_HR_drop 2 (Option.some FieldType.int) ∈ lw_good := k_of 321 rfl rfl
set_option maxRecDepth 20000 in
theorem k_HR_145 : (Cond.methodLink "HyphenRows" (145 : Nat) ({ cls := "java/util/ArrayList", name := "remove", desc := "(I)Ljava/lang/Object;" } : MethodName)) ∈ lw_good := k_of 322 rfl rfl
set_option maxRecDepth 20000 in
theorem ki_AL_remove : (Cond.instanceMethod ({ cls := "java/util/ArrayList", name := "remove", desc := "(I)Ljava/lang/Object;" } : MethodName)) ∈ lw_good := k_of 323 rfl rfl
set_option maxRecDepth 20000 in
theorem kv_AL_remove : (Cond.selects "java/util/ArrayList" ({ cls := "java/util/ArrayList", name := "remove", desc := "(I)Ljava/lang/Object;" } : MethodName) ({ cls := "java/util/ArrayList", name := "remove", desc := "(I)Ljava/lang/Object;" } : MethodName)) ∈ lw_good := k_of 324 rfl rfl
set_option maxRecDepth 20000 in
theorem kc_AL_remove : Cond.code y_AL_remove b_AL_remove 4 (Option.some (FieldType.object "java/lang/Object")) ∈ lw_good := k_of 325 rfl rfl
set_option maxRecDepth 20000 in
theorem k_AL_144 : (Cond.methodLink "java/util/ArrayList" (144 : Nat) ({ cls := "java/util/ArrayList", name := "fastRemove", desc := "([Ljava/lang/Object;I)V" } : MethodName)) ∈ lw_good := k_of 326 rfl rfl
set_option maxRecDepth 20000 in
theorem ki_AL_fastRemove : (Cond.instanceMethod ({ cls := "java/util/ArrayList", name := "fastRemove", desc := "([Ljava/lang/Object;I)V" } : MethodName)) ∈ lw_good := k_of 328 rfl rfl
set_option maxRecDepth 20000 in
theorem kc_AL_fastRemove : Cond.code y_AL_fastRemove b_AL_fastRemove 4 (Option.none : Option FieldType) ∈ lw_good := k_of 329 rfl rfl
set_option maxRecDepth 20000 in
theorem k_AL_112 : (Cond.methodLink "java/util/ArrayList" (112 : Nat) ({ cls := "java/lang/System", name := "arraycopy", desc := "(Ljava/lang/Object;ILjava/lang/Object;II)V" } : MethodName)) ∈ lw_good := k_of 330 rfl rfl
set_option maxRecDepth 20000 in
theorem k_Lw_53 : (Cond.methodLink "HyphenRowsLaw" (53 : Nat) ({ cls := "HyphenRows", name := "run", desc := "(I)I" } : MethodName)) ∈ lw_good := k_of 331 rfl rfl
set_option maxRecDepth 20000 in
theorem ki_HR_run : (Cond.instanceMethod ({ cls := "HyphenRows", name := "run", desc := "(I)I" } : MethodName)) ∈ lw_good := k_of 332 rfl rfl
set_option maxRecDepth 20000 in
theorem kv_HR_run : (Cond.selects "HyphenRows" ({ cls := "HyphenRows", name := "run", desc := "(I)I" } : MethodName) ({ cls := "HyphenRows", name := "run", desc := "(I)I" } : MethodName)) ∈ lw_good := k_of 333 rfl rfl
set_option maxRecDepth 20000 in
theorem kc_HR_run : Cond.code y_HR_run b_HR_run 5 (Option.some FieldType.int) ∈ lw_good := k_of 334 rfl rfl
set_option maxRecDepth 20000 in
theorem k_HR_148 : (Cond.methodLink "HyphenRows" (148 : Nat) ({ cls := "HyphenRows", name := "staysWhole", desc := "(LHyphenRows$Language;)Z" } : MethodName)) ∈ lw_good := k_of 335 rfl rfl
set_option maxRecDepth 20000 in
theorem ki_HR_staysWhole : (Cond.instanceMethod ({ cls := "HyphenRows", name := "staysWhole", desc := "(LHyphenRows$Language;)Z" } : MethodName)) ∈ lw_good := k_of 337 rfl rfl
set_option maxRecDepth 20000 in
theorem kc_HR_staysWhole : Cond.code y_HR_staysWhole b_HR_staysWhole 2 (Option.some FieldType.boolean) ∈ lw_good := k_of 338 rfl rfl
set_option maxRecDepth 20000 in
theorem k_HR_151 : (Cond.methodLink "HyphenRows" (151 : Nat) ({ cls := "HyphenRows", name := "findRowDigits", desc := "(I)V" } : MethodName)) ∈ lw_good := k_of 339 rfl rfl
set_option maxRecDepth 20000 in
theorem ki_HR_findRowDigits : (Cond.instanceMethod ({ cls := "HyphenRows", name := "findRowDigits", desc := "(I)V" } : MethodName)) ∈ lw_good := k_of 341 rfl rfl
set_option maxRecDepth 20000 in
theorem kc_HR_findRowDigits : Cond.code y_HR_findRowDigits b_HR_findRowDigits 5 (Option.none : Option FieldType) ∈ lw_good := k_of 342 rfl rfl
set_option maxRecDepth 20000 in
theorem k_HR_174 : (Cond.methodLink "HyphenRows" (174 : Nat) ({ cls := "java/util/Arrays", name := "fill", desc := "([II)V" } : MethodName)) ∈ lw_good := k_of 343 rfl rfl
set_option maxRecDepth 20000 in
theorem ks_Ar_fill : (Cond.static ({ cls := "java/util/Arrays", name := "fill", desc := "([II)V" } : MethodName)) ∈ lw_good := k_of 344 rfl rfl
set_option maxRecDepth 20000 in
theorem kc_Ar_fill : Cond.code y_Ar_fill b_Ar_fill 4 (Option.none : Option FieldType) ∈ lw_good := k_of 345 rfl rfl
set_option maxRecDepth 20000 in
theorem k_HR_178 : (Cond.methodLink "HyphenRows" (178 : Nat) ({ cls := "HyphenRows", name := "takeToldPlaces", desc := "(I)V" } : MethodName)) ∈ lw_good := k_of 346 rfl rfl
set_option maxRecDepth 20000 in
theorem ki_HR_takeToldPlaces : (Cond.instanceMethod ({ cls := "HyphenRows", name := "takeToldPlaces", desc := "(I)V" } : MethodName)) ∈ lw_good := k_of 348 rfl rfl
set_option maxRecDepth 20000 in
theorem kc_HR_takeToldPlaces : Cond.code y_HR_takeToldPlaces b_HR_takeToldPlaces 3 (Option.none : Option FieldType) ∈ lw_good := k_of 349 rfl rfl
set_option maxRecDepth 20000 in
theorem k_HR_181 : (Cond.methodLink "HyphenRows" (181 : Nat) ({ cls := "HyphenRows", name := "layOverRow", desc := "(LHyphenRows$Pattern;)V" } : MethodName)) ∈ lw_good := k_of 350 rfl rfl
set_option maxRecDepth 20000 in
theorem ki_HR_layOverRow : (Cond.instanceMethod ({ cls := "HyphenRows", name := "layOverRow", desc := "(LHyphenRows$Pattern;)V" } : MethodName)) ∈ lw_good := k_of 352 rfl rfl
set_option maxRecDepth 20000 in
theorem kc_HR_layOverRow : Cond.code y_HR_layOverRow b_HR_layOverRow 4 (Option.none : Option FieldType) ∈ lw_good := k_of 353 rfl rfl
set_option maxRecDepth 20000 in
theorem k_HR_185 : (Cond.methodLink "HyphenRows" (185 : Nat) ({ cls := "HyphenRows", name := "raiseDigits", desc := "([II)V" } : MethodName)) ∈ lw_good := k_of 354 rfl rfl
set_option maxRecDepth 20000 in
theorem ki_HR_raiseDigits : (Cond.instanceMethod ({ cls := "HyphenRows", name := "raiseDigits", desc := "([II)V" } : MethodName)) ∈ lw_good := k_of 356 rfl rfl
set_option maxRecDepth 20000 in
theorem kc_HR_raiseDigits : Cond.code y_HR_raiseDigits b_HR_raiseDigits 4 (Option.none : Option FieldType) ∈ lw_good := k_of 357 rfl rfl
set_option maxRecDepth 20000 in
theorem k_HR_188 : (Cond.methodLink "HyphenRows" (188 : Nat) ({ cls := "java/lang/Math", name := "max", desc := "(II)I" } : MethodName)) ∈ lw_good := k_of 358 rfl rfl
set_option maxRecDepth 20000 in
theorem k_Lw_57 : (Cond.methodLink "HyphenRowsLaw" (57 : Nat) ({ cls := "HyphenRows", name := "at", desc := "(I)I" } : MethodName)) ∈ lw_good := k_of 359 rfl rfl
set_option maxRecDepth 20000 in
theorem ki_HR_at : (Cond.instanceMethod ({ cls := "HyphenRows", name := "at", desc := "(I)I" } : MethodName)) ∈ lw_good := k_of 360 rfl rfl
set_option maxRecDepth 20000 in
theorem kv_HR_at : (Cond.selects "HyphenRows" ({ cls := "HyphenRows", name := "at", desc := "(I)I" } : MethodName) ({ cls := "HyphenRows", name := "at", desc := "(I)I" } : MethodName)) ∈ lw_good := k_of 361 rfl rfl
set_option maxRecDepth 20000 in
theorem kc_HR_at : Cond.code y_HR_at b_HR_at 2 (Option.some FieldType.int) ∈ lw_good := k_of 362 rfl rfl
set_option maxRecDepth 20000 in
theorem k_Lw_61 : (Cond.methodLink "HyphenRowsLaw" (61 : Nat) ({ cls := "HyphenRows", name := "digit", desc := "(II)I" } : MethodName)) ∈ lw_good := k_of 363 rfl rfl
set_option maxRecDepth 20000 in
theorem ki_HR_digit : (Cond.instanceMethod ({ cls := "HyphenRows", name := "digit", desc := "(II)I" } : MethodName)) ∈ lw_good := k_of 364 rfl rfl
set_option maxRecDepth 20000 in
theorem kv_HR_digit : (Cond.selects "HyphenRows" ({ cls := "HyphenRows", name := "digit", desc := "(II)I" } : MethodName) ({ cls := "HyphenRows", name := "digit", desc := "(II)I" } : MethodName)) ∈ lw_good := k_of 365 rfl rfl
set_option maxRecDepth 20000 in
theorem kc_HR_digit : Cond.code y_HR_digit b_HR_digit 3 (Option.some FieldType.int) ∈ lw_good := k_of 366 rfl rfl
set_option maxRecDepth 20000 in
theorem k_Lw_65 : (Cond.methodLink "HyphenRowsLaw" (65 : Nat) ({ cls := "HyphenRows", name := "patterns", desc := "()I" } : MethodName)) ∈ lw_good := k_of 367 rfl rfl
set_option maxRecDepth 20000 in
theorem ki_HR_patterns : (Cond.instanceMethod ({ cls := "HyphenRows", name := "patterns", desc := "()I" } : MethodName)) ∈ lw_good := k_of 368 rfl rfl
set_option maxRecDepth 20000 in
theorem kv_HR_patterns : (Cond.selects "HyphenRows" ({ cls := "HyphenRows", name := "patterns", desc := "()I" } : MethodName) ({ cls := "HyphenRows", name := "patterns", desc := "()I" } : MethodName)) ∈ lw_good := k_of 369 rfl rfl
set_option maxRecDepth 20000 in
theorem kc_HR_patterns : Cond.code y_HR_patterns b_HR_patterns 1 (Option.some FieldType.int) ∈ lw_good := k_of 370 rfl rfl
set_option maxRecDepth 20000 in
theorem k_Lw_69 : (Cond.methodLink "HyphenRowsLaw" (69 : Nat) ({ cls := "HyphenRows", name := "exceptions", desc := "()I" } : MethodName)) ∈ lw_good := k_of 371 rfl rfl
set_option maxRecDepth 20000 in
theorem ki_HR_exceptions : (Cond.instanceMethod ({ cls := "HyphenRows", name := "exceptions", desc := "()I" } : MethodName)) ∈ lw_good := k_of 372 rfl rfl
set_option maxRecDepth 20000 in
theorem kv_HR_exceptions : (Cond.selects "HyphenRows" ({ cls := "HyphenRows", name := "exceptions", desc := "()I" } : MethodName) ({ cls := "HyphenRows", name := "exceptions", desc := "()I" } : MethodName)) ∈ lw_good := k_of 373 rfl rfl
set_option maxRecDepth 20000 in
theorem kc_HR_exceptions : Cond.code y_HR_exceptions b_HR_exceptions 1 (Option.some FieldType.int) ∈ lw_good := k_of 374 rfl rfl
set_option maxRecDepth 20000 in
theorem k_Lw_10 : (Cond.classLink "HyphenRowsLaw" (10 : Nat) "HyphenRowsModel") ∈ lw_good := k_of 375 rfl rfl
set_option maxRecDepth 20000 in
theorem kt_Mo : (Cond.instantiable "HyphenRowsModel" (25 : Nat)) ∈ lw_good := k_of 376 rfl rfl
set_option maxRecDepth 20000 in
theorem k_Lw_12 : (Cond.methodLink "HyphenRowsLaw" (12 : Nat) ({ cls := "HyphenRowsModel", name := "<init>", desc := "()V" } : MethodName)) ∈ lw_good := k_of 377 rfl rfl
set_option maxRecDepth 20000 in
theorem ki_Mo_init : (Cond.instanceMethod ({ cls := "HyphenRowsModel", name := "<init>", desc := "()V" } : MethodName)) ∈ lw_good := k_of 378 rfl rfl
set_option maxRecDepth 20000 in
theorem kc_Mo_init : Cond.code y_Mo_init b_Mo_init 1 (Option.none : Option FieldType) ∈ lw_good := k_of 379 rfl rfl
set_option maxRecDepth 20000 in
theorem k_Mo_1 : (Cond.methodLink "HyphenRowsModel" (1 : Nat) ({ cls := "java/lang/Object", name := "<init>", desc := "()V" } : MethodName)) ∈ lw_good := k_of 380 rfl rfl
set_option maxRecDepth 20000 in
theorem k_Mo_65 : (Cond.fieldLink "HyphenRowsModel" (65 : Nat) "HyphenRowsModel" "languages" "I") ∈ lw_good := k_of 381 rfl rfl
set_option maxRecDepth 20000 in
theorem k_Mo_7 : (Cond.fieldLink "HyphenRowsModel" (7 : Nat) "HyphenRowsModel" "letters" "[I") ∈ lw_good := k_of 382 rfl rfl
set_option maxRecDepth 20000 in
theorem k_Mo_13 : (Cond.fieldLink "HyphenRowsModel" (13 : Nat) "HyphenRowsModel" "capital" "[Z") ∈ lw_good := k_of 383 rfl rfl
set_option maxRecDepth 20000 in
theorem k_Mo_17 : (Cond.fieldLink "HyphenRowsModel" (17 : Nat) "HyphenRowsModel" "left" "[I") ∈ lw_good := k_of 384 rfl rfl
set_option maxRecDepth 20000 in
theorem k_Mo_20 : (Cond.fieldLink "HyphenRowsModel" (20 : Nat) "HyphenRowsModel" "right" "[I") ∈ lw_good := k_of 385 rfl rfl
set_option maxRecDepth 20000 in
theorem k_Mo_23 : (Cond.fieldLink "HyphenRowsModel" (23 : Nat) "HyphenRowsModel" "whole" "[Z") ∈ lw_good := k_of 386 rfl rfl
set_option maxRecDepth 20000 in
theorem k_Mo_77 : (Cond.fieldLink "HyphenRowsModel" (77 : Nat) "HyphenRowsModel" "making" "I") ∈ lw_good := k_of 387 rfl rfl
set_option maxRecDepth 20000 in
theorem k_Mo_26 : (Cond.fieldLink "HyphenRowsModel" (26 : Nat) "HyphenRowsModel" "row" "[I") ∈ lw_good := k_of 388 rfl rfl
set_option maxRecDepth 20000 in
theorem k_Mo_29 : (Cond.fieldLink "HyphenRowsModel" (29 : Nat) "HyphenRowsModel" "before" "[I") ∈ lw_good := k_of 389 rfl rfl
set_option maxRecDepth 20000 in
theorem k_Mo_80 : (Cond.fieldLink "HyphenRowsModel" (80 : Nat) "HyphenRowsModel" "patterns" "I") ∈ lw_good := k_of 390 rfl rfl
set_option maxRecDepth 20000 in
theorem k_Mo_91 : (Cond.fieldLink "HyphenRowsModel" (91 : Nat) "HyphenRowsModel" "together" "I") ∈ lw_good := k_of 391 rfl rfl
set_option maxRecDepth 20000 in
theorem k_Mo_32 : (Cond.fieldLink "HyphenRowsModel" (32 : Nat) "HyphenRowsModel" "owner" "[I") ∈ lw_good := k_of 392 rfl rfl
set_option maxRecDepth 20000 in
theorem k_Mo_35 : (Cond.fieldLink "HyphenRowsModel" (35 : Nat) "HyphenRowsModel" "size" "[I") ∈ lw_good := k_of 393 rfl rfl
set_option maxRecDepth 20000 in
theorem k_Mo_38 : (Cond.fieldLink "HyphenRowsModel" (38 : Nat) "HyphenRowsModel" "rows" "[I") ∈ lw_good := k_of 394 rfl rfl
set_option maxRecDepth 20000 in
theorem k_Mo_41 : (Cond.fieldLink "HyphenRowsModel" (41 : Nat) "HyphenRowsModel" "digits" "[I") ∈ lw_good := k_of 395 rfl rfl
set_option maxRecDepth 20000 in
theorem k_Mo_97 : (Cond.fieldLink "HyphenRowsModel" (97 : Nat) "HyphenRowsModel" "exceptions" "I") ∈ lw_good := k_of 396 rfl rfl
set_option maxRecDepth 20000 in
theorem k_Mo_44 : (Cond.fieldLink "HyphenRowsModel" (44 : Nat) "HyphenRowsModel" "exceptionOwner" "[I") ∈ lw_good := k_of 397 rfl rfl
set_option maxRecDepth 20000 in
theorem k_Mo_47 : (Cond.fieldLink "HyphenRowsModel" (47 : Nat) "HyphenRowsModel" "exceptionSize" "[I") ∈ lw_good := k_of 398 rfl rfl
set_option maxRecDepth 20000 in
theorem k_Mo_50 : (Cond.fieldLink "HyphenRowsModel" (50 : Nat) "HyphenRowsModel" "exceptionRows" "[I") ∈ lw_good := k_of 399 rfl rfl
set_option maxRecDepth 20000 in
theorem k_Mo_53 : (Cond.fieldLink "HyphenRowsModel" (53 : Nat) "HyphenRowsModel" "exceptionPlaces" "[I") ∈ lw_good := k_of 400 rfl rfl
set_option maxRecDepth 20000 in
theorem k_Mo_94 : (Cond.fieldLink "HyphenRowsModel" (94 : Nat) "HyphenRowsModel" "signs" "I") ∈ lw_good := k_of 401 rfl rfl
set_option maxRecDepth 20000 in
theorem k_Mo_56 : (Cond.fieldLink "HyphenRowsModel" (56 : Nat) "HyphenRowsModel" "word" "[I") ∈ lw_good := k_of 402 rfl rfl
set_option maxRecDepth 20000 in
theorem k_Mo_59 : (Cond.fieldLink "HyphenRowsModel" (59 : Nat) "HyphenRowsModel" "edged" "[I") ∈ lw_good := k_of 403 rfl rfl
set_option maxRecDepth 20000 in
theorem k_Mo_110 : (Cond.fieldLink "HyphenRowsModel" (110 : Nat) "HyphenRowsModel" "places" "I") ∈ lw_good := k_of 404 rfl rfl
set_option maxRecDepth 20000 in
theorem k_Mo_62 : (Cond.fieldLink "HyphenRowsModel" (62 : Nat) "HyphenRowsModel" "place" "[I") ∈ lw_good := k_of 405 rfl rfl
set_option maxRecDepth 20000 in
theorem k_Lw_17 : (Cond.methodLink "HyphenRowsLaw" (17 : Nat) ({ cls := "HyphenRowsModel", name := "language", desc := "()I" } : MethodName)) ∈ lw_good := k_of 457 rfl rfl
set_option maxRecDepth 20000 in
theorem ki_Mo_language : (Cond.instanceMethod ({ cls := "HyphenRowsModel", name := "language", desc := "()I" } : MethodName)) ∈ lw_good := k_of 458 rfl rfl
set_option maxRecDepth 20000 in
theorem kv_Mo_language : (Cond.selects "HyphenRowsModel" ({ cls := "HyphenRowsModel", name := "language", desc := "()I" } : MethodName) ({ cls := "HyphenRowsModel", name := "language", desc := "()I" } : MethodName)) ∈ lw_good := k_of 459 rfl rfl
set_option maxRecDepth 20000 in
theorem kc_Mo_language : Cond.code y_Mo_language b_Mo_language 1 (Option.some FieldType.int) ∈ lw_good := k_of 460 rfl rfl
set_option maxRecDepth 20000 in
theorem k_Lw_22 : (Cond.methodLink "HyphenRowsLaw" (22 : Nat) ({ cls := "HyphenRowsModel", name := "code", desc := "(IIIZ)I" } : MethodName)) ∈ lw_good := k_of 461 rfl rfl
set_option maxRecDepth 20000 in
theorem ki_Mo_code : (Cond.instanceMethod ({ cls := "HyphenRowsModel", name := "code", desc := "(IIIZ)I" } : MethodName)) ∈ lw_good := k_of 462 rfl rfl
set_option maxRecDepth 20000 in
theorem kv_Mo_code : (Cond.selects "HyphenRowsModel" ({ cls := "HyphenRowsModel", name := "code", desc := "(IIIZ)I" } : MethodName) ({ cls := "HyphenRowsModel", name := "code", desc := "(IIIZ)I" } : MethodName)) ∈ lw_good := k_of 463 rfl rfl
set_option maxRecDepth 20000 in
theorem kc_Mo_code : Cond.code y_Mo_code b_Mo_code 5 (Option.some FieldType.int) ∈ lw_good := k_of 464 rfl rfl
set_option maxRecDepth 20000 in
theorem k_Mo_69 : (Cond.methodLink "HyphenRowsModel" (69 : Nat) ({ cls := "HyphenRowsModel", name := "isLanguage", desc := "(I)Z" } : MethodName)) ∈ lw_good := k_of 465 rfl rfl
set_option maxRecDepth 20000 in
theorem ki_Mo_isLanguage : (Cond.instanceMethod ({ cls := "HyphenRowsModel", name := "isLanguage", desc := "(I)Z" } : MethodName)) ∈ lw_good := k_of 467 rfl rfl
set_option maxRecDepth 20000 in
theorem kc_Mo_isLanguage : Cond.code y_Mo_isLanguage b_Mo_isLanguage 2 (Option.some FieldType.boolean) ∈ lw_good := k_of 468 rfl rfl
set_option maxRecDepth 20000 in
theorem k_Mo_73 : (Cond.methodLink "HyphenRowsModel" (73 : Nat) ({ cls := "HyphenRowsModel", name := "in", desc := "(III)Z" } : MethodName)) ∈ lw_good := k_of 469 rfl rfl
set_option maxRecDepth 20000 in
theorem ks_Mo_in : (Cond.static ({ cls := "HyphenRowsModel", name := "in", desc := "(III)Z" } : MethodName)) ∈ lw_good := k_of 470 rfl rfl
set_option maxRecDepth 20000 in
theorem kc_Mo_in : Cond.code y_Mo_in b_Mo_in 3 (Option.some FieldType.boolean) ∈ lw_good := k_of 471 rfl rfl
set_option maxRecDepth 20000 in
theorem k_Lw_26 : (Cond.methodLink "HyphenRowsLaw" (26 : Nat) ({ cls := "HyphenRowsModel", name := "ends", desc := "(IIIZ)I" } : MethodName)) ∈ lw_good := k_of 472 rfl rfl
set_option maxRecDepth 20000 in
theorem ki_Mo_ends : (Cond.instanceMethod ({ cls := "HyphenRowsModel", name := "ends", desc := "(IIIZ)I" } : MethodName)) ∈ lw_good := k_of 473 rfl rfl
set_option maxRecDepth 20000 in
theorem kv_Mo_ends : (Cond.selects "HyphenRowsModel" ({ cls := "HyphenRowsModel", name := "ends", desc := "(IIIZ)I" } : MethodName) ({ cls := "HyphenRowsModel", name := "ends", desc := "(IIIZ)I" } : MethodName)) ∈ lw_good := k_of 474 rfl rfl
set_option maxRecDepth 20000 in
theorem kc_Mo_ends : Cond.code y_Mo_ends b_Mo_ends 5 (Option.some FieldType.int) ∈ lw_good := k_of 475 rfl rfl
set_option maxRecDepth 20000 in
theorem k_Lw_31 : (Cond.methodLink "HyphenRowsLaw" (31 : Nat) ({ cls := "HyphenRowsModel", name := "next", desc := "(II)I" } : MethodName)) ∈ lw_good := k_of 476 rfl rfl
set_option maxRecDepth 20000 in
theorem ki_Mo_next : (Cond.instanceMethod ({ cls := "HyphenRowsModel", name := "next", desc := "(II)I" } : MethodName)) ∈ lw_good := k_of 477 rfl rfl
set_option maxRecDepth 20000 in
theorem kv_Mo_next : (Cond.selects "HyphenRowsModel" ({ cls := "HyphenRowsModel", name := "next", desc := "(II)I" } : MethodName) ({ cls := "HyphenRowsModel", name := "next", desc := "(II)I" } : MethodName)) ∈ lw_good := k_of 478 rfl rfl
set_option maxRecDepth 20000 in
theorem kc_Mo_next : Cond.code y_Mo_next b_Mo_next 3 (Option.some FieldType.int) ∈ lw_good := k_of 479 rfl rfl
set_option maxRecDepth 20000 in
theorem k_Lw_35 : (Cond.methodLink "HyphenRowsLaw" (35 : Nat) ({ cls := "HyphenRowsModel", name := "pattern", desc := "(II)I" } : MethodName)) ∈ lw_good := k_of 480 rfl rfl
set_option maxRecDepth 20000 in
theorem ki_Mo_pattern : (Cond.instanceMethod ({ cls := "HyphenRowsModel", name := "pattern", desc := "(II)I" } : MethodName)) ∈ lw_good := k_of 481 rfl rfl
set_option maxRecDepth 20000 in
theorem kv_Mo_pattern : (Cond.selects "HyphenRowsModel" ({ cls := "HyphenRowsModel", name := "pattern", desc := "(II)I" } : MethodName) ({ cls := "HyphenRowsModel", name := "pattern", desc := "(II)I" } : MethodName)) ∈ lw_good := k_of 482 rfl rfl
set_option maxRecDepth 20000 in
theorem kc_Mo_pattern : Cond.code y_Mo_pattern b_Mo_pattern 7 (Option.some FieldType.int) ∈ lw_good := k_of 483 rfl rfl
set_option maxRecDepth 20000 in
theorem k_Mo_83 : (Cond.methodLink "HyphenRowsModel" (83 : Nat) ({ cls := "HyphenRowsModel", name := "isSame", desc := "(II)Z" } : MethodName)) ∈ lw_good := k_of 484 rfl rfl
set_option maxRecDepth 20000 in
theorem ki_Mo_isSame : (Cond.instanceMethod ({ cls := "HyphenRowsModel", name := "isSame", desc := "(II)Z" } : MethodName)) ∈ lw_good := k_of 486 rfl rfl
set_option maxRecDepth 20000 in
theorem kc_Mo_isSame : Cond.code y_Mo_isSame b_Mo_isSame 5 (Option.some FieldType.boolean) ∈ lw_good := k_of 487 rfl rfl
set_option maxRecDepth 20000 in
theorem k_Mo_87 : (Cond.methodLink "HyphenRowsModel" (87 : Nat) ({ cls := "HyphenRowsModel", name := "isPattern", desc := "()Z" } : MethodName)) ∈ lw_good := k_of 488 rfl rfl
set_option maxRecDepth 20000 in
theorem ki_Mo_isPattern : (Cond.instanceMethod ({ cls := "HyphenRowsModel", name := "isPattern", desc := "()Z" } : MethodName)) ∈ lw_good := k_of 490 rfl rfl
set_option maxRecDepth 20000 in
theorem kc_Mo_isPattern : Cond.code y_Mo_isPattern b_Mo_isPattern 4 (Option.some FieldType.boolean) ∈ lw_good := k_of 491 rfl rfl
set_option maxRecDepth 20000 in
theorem k_Lw_40 : (Cond.methodLink "HyphenRowsLaw" (40 : Nat) ({ cls := "HyphenRowsModel", name := "sign", desc := "(I)I" } : MethodName)) ∈ lw_good := k_of 492 rfl rfl
set_option maxRecDepth 20000 in
theorem ki_Mo_sign : (Cond.instanceMethod ({ cls := "HyphenRowsModel", name := "sign", desc := "(I)I" } : MethodName)) ∈ lw_good := k_of 493 rfl rfl
set_option maxRecDepth 20000 in
theorem kv_Mo_sign : (Cond.selects "HyphenRowsModel" ({ cls := "HyphenRowsModel", name := "sign", desc := "(I)I" } : MethodName) ({ cls := "HyphenRowsModel", name := "sign", desc := "(I)I" } : MethodName)) ∈ lw_good := k_of 494 rfl rfl
set_option maxRecDepth 20000 in
theorem kc_Mo_sign : Cond.code y_Mo_sign b_Mo_sign 2 (Option.some FieldType.int) ∈ lw_good := k_of 495 rfl rfl
set_option maxRecDepth 20000 in
theorem k_Lw_44 : (Cond.methodLink "HyphenRowsLaw" (44 : Nat) ({ cls := "HyphenRowsModel", name := "clear", desc := "()I" } : MethodName)) ∈ lw_good := k_of 496 rfl rfl
set_option maxRecDepth 20000 in
theorem ki_Mo_clear : (Cond.instanceMethod ({ cls := "HyphenRowsModel", name := "clear", desc := "()I" } : MethodName)) ∈ lw_good := k_of 497 rfl rfl
set_option maxRecDepth 20000 in
theorem kv_Mo_clear : (Cond.selects "HyphenRowsModel" ({ cls := "HyphenRowsModel", name := "clear", desc := "()I" } : MethodName) ({ cls := "HyphenRowsModel", name := "clear", desc := "()I" } : MethodName)) ∈ lw_good := k_of 498 rfl rfl
set_option maxRecDepth 20000 in
theorem kc_Mo_clear : Cond.code y_Mo_clear b_Mo_clear 2 (Option.some FieldType.int) ∈ lw_good := k_of 499 rfl rfl
set_option maxRecDepth 20000 in
theorem k_Lw_48 : (Cond.methodLink "HyphenRowsLaw" (48 : Nat) ({ cls := "HyphenRowsModel", name := "exception", desc := "(II)I" } : MethodName)) ∈ lw_good := k_of 500 rfl rfl
set_option maxRecDepth 20000 in
theorem ki_Mo_exception : (Cond.instanceMethod ({ cls := "HyphenRowsModel", name := "exception", desc := "(II)I" } : MethodName)) ∈ lw_good := k_of 501 rfl rfl
set_option maxRecDepth 20000 in
theorem kv_Mo_exception : (Cond.selects "HyphenRowsModel" ({ cls := "HyphenRowsModel", name := "exception", desc := "(II)I" } : MethodName) ({ cls := "HyphenRowsModel", name := "exception", desc := "(II)I" } : MethodName)) ∈ lw_good := k_of 502 rfl rfl
set_option maxRecDepth 20000 in
theorem kc_Mo_exception : Cond.code y_Mo_exception b_Mo_exception 5 (Option.some FieldType.int) ∈ lw_good := k_of 503 rfl rfl
set_option maxRecDepth 20000 in
theorem k_Mo_100 : (Cond.methodLink "HyphenRowsModel" (100 : Nat) ({ cls := "HyphenRowsModel", name := "spell", desc := "(I)Z" } : MethodName)) ∈ lw_good := k_of 504 rfl rfl
set_option maxRecDepth 20000 in
theorem ki_Mo_spell : (Cond.instanceMethod ({ cls := "HyphenRowsModel", name := "spell", desc := "(I)Z" } : MethodName)) ∈ lw_good := k_of 506 rfl rfl
set_option maxRecDepth 20000 in
theorem kc_Mo_spell : Cond.code y_Mo_spell b_Mo_spell 4 (Option.some FieldType.boolean) ∈ lw_good := k_of 507 rfl rfl
set_option maxRecDepth 20000 in
theorem k_Mo_103 : (Cond.methodLink "HyphenRowsModel" (103 : Nat) ({ cls := "HyphenRowsModel", name := "exceptionOf", desc := "(I)I" } : MethodName)) ∈ lw_good := k_of 508 rfl rfl
set_option maxRecDepth 20000 in
theorem ki_Mo_exceptionOf : (Cond.instanceMethod ({ cls := "HyphenRowsModel", name := "exceptionOf", desc := "(I)I" } : MethodName)) ∈ lw_good := k_of 510 rfl rfl
set_option maxRecDepth 20000 in
theorem kc_Mo_exceptionOf : Cond.code y_Mo_exceptionOf b_Mo_exceptionOf 5 (Option.some FieldType.int) ∈ lw_good := k_of 511 rfl rfl
set_option maxRecDepth 20000 in
theorem k_Lw_52 : (Cond.methodLink "HyphenRowsLaw" (52 : Nat) ({ cls := "HyphenRowsModel", name := "drop", desc := "(I)I" } : MethodName)) ∈ lw_good := k_of 512 rfl rfl
set_option maxRecDepth 20000 in
theorem ki_Mo_drop : (Cond.instanceMethod ({ cls := "HyphenRowsModel", name := "drop", desc := "(I)I" } : MethodName)) ∈ lw_good := k_of 513 rfl rfl
set_option maxRecDepth 20000 in
theorem kv_Mo_drop : (Cond.selects "HyphenRowsModel" ({ cls := "HyphenRowsModel", name := "drop", desc := "(I)I" } : MethodName) ({ cls := "HyphenRowsModel", name := "drop", desc := "(I)I" } : MethodName)) ∈ lw_good := k_of 514 rfl rfl
set_option maxRecDepth 20000 in
theorem kc_Mo_drop : Cond.code y_Mo_drop b_Mo_drop 4 (Option.some FieldType.int) ∈ lw_good := k_of 515 rfl rfl
set_option maxRecDepth 20000 in
theorem k_Lw_56 : (Cond.methodLink "HyphenRowsLaw" (56 : Nat) ({ cls := "HyphenRowsModel", name := "run", desc := "(I)I" } : MethodName)) ∈ lw_good := k_of 516 rfl rfl
set_option maxRecDepth 20000 in
theorem ki_Mo_run : (Cond.instanceMethod ({ cls := "HyphenRowsModel", name := "run", desc := "(I)I" } : MethodName)) ∈ lw_good := k_of 517 rfl rfl
set_option maxRecDepth 20000 in
theorem kv_Mo_run : (Cond.selects "HyphenRowsModel" ({ cls := "HyphenRowsModel", name := "run", desc := "(I)I" } : MethodName) ({ cls := "HyphenRowsModel", name := "run", desc := "(I)I" } : MethodName)) ∈ lw_good := k_of 518 rfl rfl
set_option maxRecDepth 20000 in
theorem kc_Mo_run : Cond.code y_Mo_run b_Mo_run 7 (Option.some FieldType.int) ∈ lw_good := k_of 519 rfl rfl
set_option maxRecDepth 20000 in
theorem k_Mo_113 : (Cond.methodLink "HyphenRowsModel" (113 : Nat) ({ cls := "HyphenRowsModel", name := "digitOf", desc := "(II)I" } : MethodName)) ∈ lw_good := k_of 520 rfl rfl
set_option maxRecDepth 20000 in
theorem ki_Mo_digitOf : (Cond.instanceMethod ({ cls := "HyphenRowsModel", name := "digitOf", desc := "(II)I" } : MethodName)) ∈ lw_good := k_of 522 rfl rfl
set_option maxRecDepth 20000 in
theorem kc_Mo_digitOf : Cond.code y_Mo_digitOf b_Mo_digitOf 7 (Option.some FieldType.int) ∈ lw_good := k_of 523 rfl rfl
set_option maxRecDepth 20000 in
theorem k_Mo_107 : (Cond.methodLink "HyphenRowsModel" (107 : Nat) ({ cls := "HyphenRowsModel", name := "stands", desc := "(II)Z" } : MethodName)) ∈ lw_good := k_of 524 rfl rfl
set_option maxRecDepth 20000 in
theorem ki_Mo_stands : (Cond.instanceMethod ({ cls := "HyphenRowsModel", name := "stands", desc := "(II)Z" } : MethodName)) ∈ lw_good := k_of 526 rfl rfl
set_option maxRecDepth 20000 in
theorem kc_Mo_stands : Cond.code y_Mo_stands b_Mo_stands 5 (Option.some FieldType.boolean) ∈ lw_good := k_of 527 rfl rfl
set_option maxRecDepth 20000 in
theorem k_Lw_60 : (Cond.methodLink "HyphenRowsLaw" (60 : Nat) ({ cls := "HyphenRowsModel", name := "at", desc := "(I)I" } : MethodName)) ∈ lw_good := k_of 528 rfl rfl
set_option maxRecDepth 20000 in
theorem ki_Mo_at : (Cond.instanceMethod ({ cls := "HyphenRowsModel", name := "at", desc := "(I)I" } : MethodName)) ∈ lw_good := k_of 529 rfl rfl
set_option maxRecDepth 20000 in
theorem kv_Mo_at : (Cond.selects "HyphenRowsModel" ({ cls := "HyphenRowsModel", name := "at", desc := "(I)I" } : MethodName) ({ cls := "HyphenRowsModel", name := "at", desc := "(I)I" } : MethodName)) ∈ lw_good := k_of 530 rfl rfl
set_option maxRecDepth 20000 in
theorem kc_Mo_at : Cond.code y_Mo_at b_Mo_at 2 (Option.some FieldType.int) ∈ lw_good := k_of 531 rfl rfl
set_option maxRecDepth 20000 in
theorem k_Lw_64 : (Cond.methodLink "HyphenRowsLaw" (64 : Nat) ({ cls := "HyphenRowsModel", name := "digit", desc := "(II)I" } : MethodName)) ∈ lw_good := k_of 532 rfl rfl
set_option maxRecDepth 20000 in
theorem ki_Mo_digit : (Cond.instanceMethod ({ cls := "HyphenRowsModel", name := "digit", desc := "(II)I" } : MethodName)) ∈ lw_good := k_of 533 rfl rfl
set_option maxRecDepth 20000 in
theorem kv_Mo_digit : (Cond.selects "HyphenRowsModel" ({ cls := "HyphenRowsModel", name := "digit", desc := "(II)I" } : MethodName) ({ cls := "HyphenRowsModel", name := "digit", desc := "(II)I" } : MethodName)) ∈ lw_good := k_of 534 rfl rfl
set_option maxRecDepth 20000 in
theorem kc_Mo_digit : Cond.code y_Mo_digit b_Mo_digit 3 (Option.some FieldType.int) ∈ lw_good := k_of 535 rfl rfl
set_option maxRecDepth 20000 in
theorem k_Lw_68 : (Cond.methodLink "HyphenRowsLaw" (68 : Nat) ({ cls := "HyphenRowsModel", name := "patterns", desc := "()I" } : MethodName)) ∈ lw_good := k_of 536 rfl rfl
set_option maxRecDepth 20000 in
theorem ki_Mo_patterns : (Cond.instanceMethod ({ cls := "HyphenRowsModel", name := "patterns", desc := "()I" } : MethodName)) ∈ lw_good := k_of 537 rfl rfl
set_option maxRecDepth 20000 in
theorem kv_Mo_patterns : (Cond.selects "HyphenRowsModel" ({ cls := "HyphenRowsModel", name := "patterns", desc := "()I" } : MethodName) ({ cls := "HyphenRowsModel", name := "patterns", desc := "()I" } : MethodName)) ∈ lw_good := k_of 538 rfl rfl
set_option maxRecDepth 20000 in
theorem kc_Mo_patterns : Cond.code y_Mo_patterns b_Mo_patterns 1 (Option.some FieldType.int) ∈ lw_good := k_of 539 rfl rfl
set_option maxRecDepth 20000 in
theorem k_Lw_72 : (Cond.methodLink "HyphenRowsLaw" (72 : Nat) ({ cls := "HyphenRowsModel", name := "exceptions", desc := "()I" } : MethodName)) ∈ lw_good := k_of 540 rfl rfl
set_option maxRecDepth 20000 in
theorem ki_Mo_exceptions : (Cond.instanceMethod ({ cls := "HyphenRowsModel", name := "exceptions", desc := "()I" } : MethodName)) ∈ lw_good := k_of 541 rfl rfl
set_option maxRecDepth 20000 in
theorem kv_Mo_exceptions : (Cond.selects "HyphenRowsModel" ({ cls := "HyphenRowsModel", name := "exceptions", desc := "()I" } : MethodName) ({ cls := "HyphenRowsModel", name := "exceptions", desc := "()I" } : MethodName)) ∈ lw_good := k_of 542 rfl rfl
set_option maxRecDepth 20000 in
theorem kc_Mo_exceptions : Cond.code y_Mo_exceptions b_Mo_exceptions 1 (Option.some FieldType.int) ∈ lw_good := k_of 543 rfl rfl
set_option maxRecDepth 20000 in
theorem km_Oa_getClass : (Cond.sameMethod "[Ljava/lang/Object;" "java/lang/Object" "getClass" "()Ljava/lang/Class;") ∈ lw_good := k_of 547 rfl rfl
set_option maxRecDepth 20000 in
theorem kv_Oa_Oj_getClass : (Cond.selects "[Ljava/lang/Object;" ({ cls := "java/lang/Object", name := "getClass", desc := "()Ljava/lang/Class;" } : MethodName) ({ cls := "java/lang/Object", name := "getClass", desc := "()Ljava/lang/Class;" } : MethodName)) ∈ lw_good := k_of 548 rfl rfl
theorem kv_AL_add3 : Cond.selects "java/util/ArrayList" y_AL_add3 y_AL_add3 ∈ lw_good := k_sel 0 rfl rfl
theorem kv_AL_grow0 : Cond.selects "java/util/ArrayList" y_AL_grow0 y_AL_grow0 ∈ lw_good := k_sel 1 rfl rfl
theorem kv_AL_grow1 : Cond.selects "java/util/ArrayList" y_AL_grow1 y_AL_grow1 ∈ lw_good := k_sel 2 rfl rfl
theorem kv_HR_isLanguage : Cond.selects "HyphenRows" y_HR_isLanguage y_HR_isLanguage ∈ lw_good := k_sel 3 rfl rfl
theorem kv_HR_isPatternRow : Cond.selects "HyphenRows" y_HR_isPatternRow y_HR_isPatternRow ∈ lw_good := k_sel 4 rfl rfl
theorem kv_HR_patternWithMadeRow : Cond.selects "HyphenRows" y_HR_patternWithMadeRow y_HR_patternWithMadeRow ∈ lw_good := k_sel 5 rfl rfl
theorem kv_HR_addPattern : Cond.selects "HyphenRows" y_HR_addPattern y_HR_addPattern ∈ lw_good := k_sel 6 rfl rfl
theorem kv_HR_spellWord : Cond.selects "HyphenRows" y_HR_spellWord y_HR_spellWord ∈ lw_good := k_sel 7 rfl rfl
theorem kv_HR_exceptionWithWordsLetters : Cond.selects "HyphenRows" y_HR_exceptionWithWordsLetters y_HR_exceptionWithWordsLetters ∈ lw_good := k_sel 8 rfl rfl
theorem kv_AL_fastRemove : Cond.selects "java/util/ArrayList" y_AL_fastRemove y_AL_fastRemove ∈ lw_good := k_sel 9 rfl rfl
theorem kv_HR_staysWhole : Cond.selects "HyphenRows" y_HR_staysWhole y_HR_staysWhole ∈ lw_good := k_sel 10 rfl rfl
theorem kv_HR_findRowDigits : Cond.selects "HyphenRows" y_HR_findRowDigits y_HR_findRowDigits ∈ lw_good := k_sel 11 rfl rfl
theorem kv_HR_takeToldPlaces : Cond.selects "HyphenRows" y_HR_takeToldPlaces y_HR_takeToldPlaces ∈ lw_good := k_sel 12 rfl rfl
theorem kv_HR_layOverRow : Cond.selects "HyphenRows" y_HR_layOverRow y_HR_layOverRow ∈ lw_good := k_sel 13 rfl rfl
theorem kv_HR_raiseDigits : Cond.selects "HyphenRows" y_HR_raiseDigits y_HR_raiseDigits ∈ lw_good := k_sel 14 rfl rfl
theorem kv_Mo_isLanguage : Cond.selects "HyphenRowsModel" y_Mo_isLanguage y_Mo_isLanguage ∈ lw_good := k_sel 15 rfl rfl
theorem kv_Mo_isSame : Cond.selects "HyphenRowsModel" y_Mo_isSame y_Mo_isSame ∈ lw_good := k_sel 16 rfl rfl
theorem kv_Mo_isPattern : Cond.selects "HyphenRowsModel" y_Mo_isPattern y_Mo_isPattern ∈ lw_good := k_sel 17 rfl rfl
theorem kv_Mo_spell : Cond.selects "HyphenRowsModel" y_Mo_spell y_Mo_spell ∈ lw_good := k_sel 18 rfl rfl
theorem kv_Mo_exceptionOf : Cond.selects "HyphenRowsModel" y_Mo_exceptionOf y_Mo_exceptionOf ∈ lw_good := k_sel 19 rfl rfl
theorem kv_Mo_digitOf : Cond.selects "HyphenRowsModel" y_Mo_digitOf y_Mo_digitOf ∈ lw_good := k_sel 20 rfl rfl
theorem kv_Mo_stands : Cond.selects "HyphenRowsModel" y_Mo_stands y_Mo_stands ∈ lw_good := k_sel 21 rfl rfl
set_option maxRecDepth 20000 in
theorem i_HR : ∀ x ∈ u_ws R_HR F_HR 13, x ∈ lw_good := by
  intro x hx
  obtain ⟨k, hk, e1⟩ := List.mem_map.mp hx
  have hk : k < 13 := List.mem_range.mp hk
  subst e1
  match k, hk with
  | 0, _ => exact k_of 62 rfl rfl
  | 1, _ => exact k_of 64 rfl rfl
  | 2, _ => exact k_of 66 rfl rfl
  | 3, _ => exact k_of 68 rfl rfl
  | 4, _ => exact k_of 70 rfl rfl
  | 5, _ => exact k_of 72 rfl rfl
  | 6, _ => exact k_of 74 rfl rfl
  | 7, _ => exact k_of 76 rfl rfl
  | 8, _ => exact k_of 78 rfl rfl
  | 9, _ => exact k_of 80 rfl rfl
  | 10, _ => exact k_of 82 rfl rfl
  | 11, _ => exact k_of 84 rfl rfl
  | 12, _ => exact k_of 86 rfl rfl
  | k + 13, h => exact absurd h (by omega)
set_option maxRecDepth 20000 in
theorem i_La : ∀ x ∈ u_ws R_La F_La 5, x ∈ lw_good := by
  intro x hx
  obtain ⟨k, hk, e1⟩ := List.mem_map.mp hx
  have hk : k < 5 := List.mem_range.mp hk
  subst e1
  match k, hk with
  | 0, _ => exact k_of 114 rfl rfl
  | 1, _ => exact k_of 116 rfl rfl
  | 2, _ => exact k_of 118 rfl rfl
  | 3, _ => exact k_of 120 rfl rfl
  | 4, _ => exact k_of 122 rfl rfl
  | k + 5, h => exact absurd h (by omega)
set_option maxRecDepth 20000 in
theorem i_Pa : ∀ x ∈ u_ws R_Pa F_Pa 3, x ∈ lw_good := by
  intro x hx
  obtain ⟨k, hk, e1⟩ := List.mem_map.mp hx
  have hk : k < 3 := List.mem_range.mp hk
  subst e1
  match k, hk with
  | 0, _ => exact k_of 263 rfl rfl
  | 1, _ => exact k_of 265 rfl rfl
  | 2, _ => exact k_of 267 rfl rfl
  | k + 3, h => exact absurd h (by omega)
set_option maxRecDepth 20000 in
theorem i_To : ∀ x ∈ u_ws R_To F_To 3, x ∈ lw_good := by
  intro x hx
  obtain ⟨k, hk, e1⟩ := List.mem_map.mp hx
  have hk : k < 3 := List.mem_range.mp hk
  subst e1
  match k, hk with
  | 0, _ => exact k_of 311 rfl rfl
  | 1, _ => exact k_of 313 rfl rfl
  | 2, _ => exact k_of 315 rfl rfl
  | k + 3, h => exact absurd h (by omega)
set_option maxRecDepth 20000 in
theorem i_AL : ∀ x ∈ u_ws R_AL F_AL 3, x ∈ lw_good := by
  intro x hx
  obtain ⟨k, hk, e1⟩ := List.mem_map.mp hx
  have hk : k < 3 := List.mem_range.mp hk
  subst e1
  match k, hk with
  | 0, _ => exact k_of 42 rfl rfl
  | 1, _ => exact k_of 44 rfl rfl
  | 2, _ => exact k_of 46 rfl rfl
  | k + 3, h => exact absurd h (by omega)
set_option maxRecDepth 20000 in
theorem i_Mo : ∀ x ∈ u_ws R_Mo F_Mo 25, x ∈ lw_good := by
  intro x hx
  obtain ⟨k, hk, e1⟩ := List.mem_map.mp hx
  have hk : k < 25 := List.mem_range.mp hk
  subst e1
  match k, hk with
  | 0, _ => exact k_of 406 rfl rfl
  | 1, _ => exact k_of 408 rfl rfl
  | 2, _ => exact k_of 410 rfl rfl
  | 3, _ => exact k_of 412 rfl rfl
  | 4, _ => exact k_of 414 rfl rfl
  | 5, _ => exact k_of 416 rfl rfl
  | 6, _ => exact k_of 418 rfl rfl
  | 7, _ => exact k_of 420 rfl rfl
  | 8, _ => exact k_of 422 rfl rfl
  | 9, _ => exact k_of 424 rfl rfl
  | 10, _ => exact k_of 426 rfl rfl
  | 11, _ => exact k_of 428 rfl rfl
  | 12, _ => exact k_of 430 rfl rfl
  | 13, _ => exact k_of 432 rfl rfl
  | 14, _ => exact k_of 434 rfl rfl
  | 15, _ => exact k_of 436 rfl rfl
  | 16, _ => exact k_of 438 rfl rfl
  | 17, _ => exact k_of 440 rfl rfl
  | 18, _ => exact k_of 442 rfl rfl
  | 19, _ => exact k_of 444 rfl rfl
  | 20, _ => exact k_of 446 rfl rfl
  | 21, _ => exact k_of 448 rfl rfl
  | 22, _ => exact k_of 450 rfl rfl
  | 23, _ => exact k_of 452 rfl rfl
  | 24, _ => exact k_of 454 rfl rfl
  | k + 25, h => exact absurd h (by omega)
theorem kd_HR_init : y_HR_init.cls ≠ "java/lang/invoke/MethodHandle" ∧ y_HR_init.cls ≠ "java/lang/invoke/VarHandle" ∧ (parseMethodDescriptor y_HR_init.desc).map (fun d => d.parameters.length) = some 0 := by decide +kernel
theorem kd_Oj_init : y_Oj_init.cls ≠ "java/lang/invoke/MethodHandle" ∧ y_Oj_init.cls ≠ "java/lang/invoke/VarHandle" ∧ (parseMethodDescriptor y_Oj_init.desc).map (fun d => d.parameters.length) = some 0 := by decide +kernel
theorem kd_AL_init : y_AL_init.cls ≠ "java/lang/invoke/MethodHandle" ∧ y_AL_init.cls ≠ "java/lang/invoke/VarHandle" ∧ (parseMethodDescriptor y_AL_init.desc).map (fun d => d.parameters.length) = some 0 := by decide +kernel
theorem kd_Ab_init : y_Ab_init.cls ≠ "java/lang/invoke/MethodHandle" ∧ y_Ab_init.cls ≠ "java/lang/invoke/VarHandle" ∧ (parseMethodDescriptor y_Ab_init.desc).map (fun d => d.parameters.length) = some 0 := by decide +kernel
theorem kd_Ac_init : y_Ac_init.cls ≠ "java/lang/invoke/MethodHandle" ∧ y_Ac_init.cls ≠ "java/lang/invoke/VarHandle" ∧ (parseMethodDescriptor y_Ac_init.desc).map (fun d => d.parameters.length) = some 0 := by decide +kernel
theorem kd_HR_language : y_HR_language.cls ≠ "java/lang/invoke/MethodHandle" ∧ y_HR_language.cls ≠ "java/lang/invoke/VarHandle" ∧ (parseMethodDescriptor y_HR_language.desc).map (fun d => d.parameters.length) = some 0 := by decide +kernel
theorem kd_AL_size : y_AL_size.cls ≠ "java/lang/invoke/MethodHandle" ∧ y_AL_size.cls ≠ "java/lang/invoke/VarHandle" ∧ (parseMethodDescriptor y_AL_size.desc).map (fun d => d.parameters.length) = some 0 := by decide +kernel
theorem kd_La_init : y_La_init.cls ≠ "java/lang/invoke/MethodHandle" ∧ y_La_init.cls ≠ "java/lang/invoke/VarHandle" ∧ (parseMethodDescriptor y_La_init.desc).map (fun d => d.parameters.length) = some 0 := by decide +kernel
theorem kd_AL_add1 : y_AL_add1.cls ≠ "java/lang/invoke/MethodHandle" ∧ y_AL_add1.cls ≠ "java/lang/invoke/VarHandle" ∧ (parseMethodDescriptor y_AL_add1.desc).map (fun d => d.parameters.length) = some 1 := by decide +kernel
theorem kd_AL_add3 : y_AL_add3.cls ≠ "java/lang/invoke/MethodHandle" ∧ y_AL_add3.cls ≠ "java/lang/invoke/VarHandle" ∧ (parseMethodDescriptor y_AL_add3.desc).map (fun d => d.parameters.length) = some 3 := by decide +kernel
theorem kd_AL_grow0 : y_AL_grow0.cls ≠ "java/lang/invoke/MethodHandle" ∧ y_AL_grow0.cls ≠ "java/lang/invoke/VarHandle" ∧ (parseMethodDescriptor y_AL_grow0.desc).map (fun d => d.parameters.length) = some 0 := by decide +kernel
theorem kd_AL_grow1 : y_AL_grow1.cls ≠ "java/lang/invoke/MethodHandle" ∧ y_AL_grow1.cls ≠ "java/lang/invoke/VarHandle" ∧ (parseMethodDescriptor y_AL_grow1.desc).map (fun d => d.parameters.length) = some 1 := by decide +kernel
theorem kd_As_newLength : y_As_newLength.cls ≠ "java/lang/invoke/MethodHandle" ∧ y_As_newLength.cls ≠ "java/lang/invoke/VarHandle" ∧ (parseMethodDescriptor y_As_newLength.desc).map (fun d => d.parameters.length) = some 3 := by decide +kernel
theorem kd_Ma_max : y_Ma_max.cls ≠ "java/lang/invoke/MethodHandle" ∧ y_Ma_max.cls ≠ "java/lang/invoke/VarHandle" ∧ (parseMethodDescriptor y_Ma_max.desc).map (fun d => d.parameters.length) = some 2 := by decide +kernel
theorem kd_As_hugeLength : y_As_hugeLength.cls ≠ "java/lang/invoke/MethodHandle" ∧ y_As_hugeLength.cls ≠ "java/lang/invoke/VarHandle" ∧ (parseMethodDescriptor y_As_hugeLength.desc).map (fun d => d.parameters.length) = some 2 := by decide +kernel
theorem kd_Ar_copyOf2 : y_Ar_copyOf2.cls ≠ "java/lang/invoke/MethodHandle" ∧ y_Ar_copyOf2.cls ≠ "java/lang/invoke/VarHandle" ∧ (parseMethodDescriptor y_Ar_copyOf2.desc).map (fun d => d.parameters.length) = some 2 := by decide +kernel
theorem kd_Ar_copyOf3 : y_Ar_copyOf3.cls ≠ "java/lang/invoke/MethodHandle" ∧ y_Ar_copyOf3.cls ≠ "java/lang/invoke/VarHandle" ∧ (parseMethodDescriptor y_Ar_copyOf3.desc).map (fun d => d.parameters.length) = some 3 := by decide +kernel
theorem kd_Ma_min : y_Ma_min.cls ≠ "java/lang/invoke/MethodHandle" ∧ y_Ma_min.cls ≠ "java/lang/invoke/VarHandle" ∧ (parseMethodDescriptor y_Ma_min.desc).map (fun d => d.parameters.length) = some 2 := by decide +kernel
theorem kd_HR_code : y_HR_code.cls ≠ "java/lang/invoke/MethodHandle" ∧ y_HR_code.cls ≠ "java/lang/invoke/VarHandle" ∧ (parseMethodDescriptor y_HR_code.desc).map (fun d => d.parameters.length) = some 4 := by decide +kernel
theorem kd_HR_isLanguage : y_HR_isLanguage.cls ≠ "java/lang/invoke/MethodHandle" ∧ y_HR_isLanguage.cls ≠ "java/lang/invoke/VarHandle" ∧ (parseMethodDescriptor y_HR_isLanguage.desc).map (fun d => d.parameters.length) = some 1 := by decide +kernel
theorem kd_HR_isSign : y_HR_isSign.cls ≠ "java/lang/invoke/MethodHandle" ∧ y_HR_isSign.cls ≠ "java/lang/invoke/VarHandle" ∧ (parseMethodDescriptor y_HR_isSign.desc).map (fun d => d.parameters.length) = some 1 := by decide +kernel
theorem kd_HR_isLetterOrZero : y_HR_isLetterOrZero.cls ≠ "java/lang/invoke/MethodHandle" ∧ y_HR_isLetterOrZero.cls ≠ "java/lang/invoke/VarHandle" ∧ (parseMethodDescriptor y_HR_isLetterOrZero.desc).map (fun d => d.parameters.length) = some 1 := by decide +kernel
theorem kd_AL_get : y_AL_get.cls ≠ "java/lang/invoke/MethodHandle" ∧ y_AL_get.cls ≠ "java/lang/invoke/VarHandle" ∧ (parseMethodDescriptor y_AL_get.desc).map (fun d => d.parameters.length) = some 1 := by decide +kernel
theorem kd_Ob_checkIndex : y_Ob_checkIndex.cls ≠ "java/lang/invoke/MethodHandle" ∧ y_Ob_checkIndex.cls ≠ "java/lang/invoke/VarHandle" ∧ (parseMethodDescriptor y_Ob_checkIndex.desc).map (fun d => d.parameters.length) = some 2 := by decide +kernel
theorem kd_Pc_checkIndex : y_Pc_checkIndex.cls ≠ "java/lang/invoke/MethodHandle" ∧ y_Pc_checkIndex.cls ≠ "java/lang/invoke/VarHandle" ∧ (parseMethodDescriptor y_Pc_checkIndex.desc).map (fun d => d.parameters.length) = some 3 := by decide +kernel
theorem kd_AL_elementData : y_AL_elementData.cls ≠ "java/lang/invoke/MethodHandle" ∧ y_AL_elementData.cls ≠ "java/lang/invoke/VarHandle" ∧ (parseMethodDescriptor y_AL_elementData.desc).map (fun d => d.parameters.length) = some 1 := by decide +kernel
theorem kd_HR_ends : y_HR_ends.cls ≠ "java/lang/invoke/MethodHandle" ∧ y_HR_ends.cls ≠ "java/lang/invoke/VarHandle" ∧ (parseMethodDescriptor y_HR_ends.desc).map (fun d => d.parameters.length) = some 4 := by decide +kernel
theorem kd_HR_isLeast : y_HR_isLeast.cls ≠ "java/lang/invoke/MethodHandle" ∧ y_HR_isLeast.cls ≠ "java/lang/invoke/VarHandle" ∧ (parseMethodDescriptor y_HR_isLeast.desc).map (fun d => d.parameters.length) = some 1 := by decide +kernel
theorem kd_HR_next : y_HR_next.cls ≠ "java/lang/invoke/MethodHandle" ∧ y_HR_next.cls ≠ "java/lang/invoke/VarHandle" ∧ (parseMethodDescriptor y_HR_next.desc).map (fun d => d.parameters.length) = some 2 := by decide +kernel
theorem kd_HR_isDigit : y_HR_isDigit.cls ≠ "java/lang/invoke/MethodHandle" ∧ y_HR_isDigit.cls ≠ "java/lang/invoke/VarHandle" ∧ (parseMethodDescriptor y_HR_isDigit.desc).map (fun d => d.parameters.length) = some 1 := by decide +kernel
theorem kd_HR_pattern : y_HR_pattern.cls ≠ "java/lang/invoke/MethodHandle" ∧ y_HR_pattern.cls ≠ "java/lang/invoke/VarHandle" ∧ (parseMethodDescriptor y_HR_pattern.desc).map (fun d => d.parameters.length) = some 2 := by decide +kernel
theorem kd_HR_isPatternRow : y_HR_isPatternRow.cls ≠ "java/lang/invoke/MethodHandle" ∧ y_HR_isPatternRow.cls ≠ "java/lang/invoke/VarHandle" ∧ (parseMethodDescriptor y_HR_isPatternRow.desc).map (fun d => d.parameters.length) = some 1 := by decide +kernel
theorem kd_HR_patternWithMadeRow : y_HR_patternWithMadeRow.cls ≠ "java/lang/invoke/MethodHandle" ∧ y_HR_patternWithMadeRow.cls ≠ "java/lang/invoke/VarHandle" ∧ (parseMethodDescriptor y_HR_patternWithMadeRow.desc).map (fun d => d.parameters.length) = some 2 := by decide +kernel
theorem kd_HR_standsAt : y_HR_standsAt.cls ≠ "java/lang/invoke/MethodHandle" ∧ y_HR_standsAt.cls ≠ "java/lang/invoke/VarHandle" ∧ (parseMethodDescriptor y_HR_standsAt.desc).map (fun d => d.parameters.length) = some 3 := by decide +kernel
theorem kd_HR_addPattern : y_HR_addPattern.cls ≠ "java/lang/invoke/MethodHandle" ∧ y_HR_addPattern.cls ≠ "java/lang/invoke/VarHandle" ∧ (parseMethodDescriptor y_HR_addPattern.desc).map (fun d => d.parameters.length) = some 2 := by decide +kernel
theorem kd_Ar_copyOfI : y_Ar_copyOfI.cls ≠ "java/lang/invoke/MethodHandle" ∧ y_Ar_copyOfI.cls ≠ "java/lang/invoke/VarHandle" ∧ (parseMethodDescriptor y_Ar_copyOfI.desc).map (fun d => d.parameters.length) = some 2 := by decide +kernel
theorem kd_Pa_init : y_Pa_init.cls ≠ "java/lang/invoke/MethodHandle" ∧ y_Pa_init.cls ≠ "java/lang/invoke/VarHandle" ∧ (parseMethodDescriptor y_Pa_init.desc).map (fun d => d.parameters.length) = some 3 := by decide +kernel
theorem kd_HR_sign : y_HR_sign.cls ≠ "java/lang/invoke/MethodHandle" ∧ y_HR_sign.cls ≠ "java/lang/invoke/VarHandle" ∧ (parseMethodDescriptor y_HR_sign.desc).map (fun d => d.parameters.length) = some 1 := by decide +kernel
theorem kd_HR_clear : y_HR_clear.cls ≠ "java/lang/invoke/MethodHandle" ∧ y_HR_clear.cls ≠ "java/lang/invoke/VarHandle" ∧ (parseMethodDescriptor y_HR_clear.desc).map (fun d => d.parameters.length) = some 0 := by decide +kernel
theorem kd_HR_exception : y_HR_exception.cls ≠ "java/lang/invoke/MethodHandle" ∧ y_HR_exception.cls ≠ "java/lang/invoke/VarHandle" ∧ (parseMethodDescriptor y_HR_exception.desc).map (fun d => d.parameters.length) = some 2 := by decide +kernel
theorem kd_HR_spellWord : y_HR_spellWord.cls ≠ "java/lang/invoke/MethodHandle" ∧ y_HR_spellWord.cls ≠ "java/lang/invoke/VarHandle" ∧ (parseMethodDescriptor y_HR_spellWord.desc).map (fun d => d.parameters.length) = some 1 := by decide +kernel
theorem kd_HR_exceptionWithWordsLetters : y_HR_exceptionWithWordsLetters.cls ≠ "java/lang/invoke/MethodHandle" ∧ y_HR_exceptionWithWordsLetters.cls ≠ "java/lang/invoke/VarHandle" ∧ (parseMethodDescriptor y_HR_exceptionWithWordsLetters.desc).map (fun d => d.parameters.length) = some 1 := by decide +kernel
theorem kd_Ar_copyOfRange : y_Ar_copyOfRange.cls ≠ "java/lang/invoke/MethodHandle" ∧ y_Ar_copyOfRange.cls ≠ "java/lang/invoke/VarHandle" ∧ (parseMethodDescriptor y_Ar_copyOfRange.desc).map (fun d => d.parameters.length) = some 3 := by decide +kernel
theorem kd_Ar_copyOfRangeInt : y_Ar_copyOfRangeInt.cls ≠ "java/lang/invoke/MethodHandle" ∧ y_Ar_copyOfRangeInt.cls ≠ "java/lang/invoke/VarHandle" ∧ (parseMethodDescriptor y_Ar_copyOfRangeInt.desc).map (fun d => d.parameters.length) = some 3 := by decide +kernel
theorem kd_Ar_checkLength : y_Ar_checkLength.cls ≠ "java/lang/invoke/MethodHandle" ∧ y_Ar_checkLength.cls ≠ "java/lang/invoke/VarHandle" ∧ (parseMethodDescriptor y_Ar_checkLength.desc).map (fun d => d.parameters.length) = some 2 := by decide +kernel
theorem kd_To_init : y_To_init.cls ≠ "java/lang/invoke/MethodHandle" ∧ y_To_init.cls ≠ "java/lang/invoke/VarHandle" ∧ (parseMethodDescriptor y_To_init.desc).map (fun d => d.parameters.length) = some 3 := by decide +kernel
theorem kd_HR_drop : y_HR_drop.cls ≠ "java/lang/invoke/MethodHandle" ∧ y_HR_drop.cls ≠ "java/lang/invoke/VarHandle" ∧ (parseMethodDescriptor y_HR_drop.desc).map (fun d => d.parameters.length) = some 1 := by decide +kernel
theorem kd_AL_remove : y_AL_remove.cls ≠ "java/lang/invoke/MethodHandle" ∧ y_AL_remove.cls ≠ "java/lang/invoke/VarHandle" ∧ (parseMethodDescriptor y_AL_remove.desc).map (fun d => d.parameters.length) = some 1 := by decide +kernel
theorem kd_AL_fastRemove : y_AL_fastRemove.cls ≠ "java/lang/invoke/MethodHandle" ∧ y_AL_fastRemove.cls ≠ "java/lang/invoke/VarHandle" ∧ (parseMethodDescriptor y_AL_fastRemove.desc).map (fun d => d.parameters.length) = some 2 := by decide +kernel
theorem kd_HR_run : y_HR_run.cls ≠ "java/lang/invoke/MethodHandle" ∧ y_HR_run.cls ≠ "java/lang/invoke/VarHandle" ∧ (parseMethodDescriptor y_HR_run.desc).map (fun d => d.parameters.length) = some 1 := by decide +kernel
theorem kd_HR_staysWhole : y_HR_staysWhole.cls ≠ "java/lang/invoke/MethodHandle" ∧ y_HR_staysWhole.cls ≠ "java/lang/invoke/VarHandle" ∧ (parseMethodDescriptor y_HR_staysWhole.desc).map (fun d => d.parameters.length) = some 1 := by decide +kernel
theorem kd_HR_findRowDigits : y_HR_findRowDigits.cls ≠ "java/lang/invoke/MethodHandle" ∧ y_HR_findRowDigits.cls ≠ "java/lang/invoke/VarHandle" ∧ (parseMethodDescriptor y_HR_findRowDigits.desc).map (fun d => d.parameters.length) = some 1 := by decide +kernel
theorem kd_Ar_fill : y_Ar_fill.cls ≠ "java/lang/invoke/MethodHandle" ∧ y_Ar_fill.cls ≠ "java/lang/invoke/VarHandle" ∧ (parseMethodDescriptor y_Ar_fill.desc).map (fun d => d.parameters.length) = some 2 := by decide +kernel
theorem kd_HR_takeToldPlaces : y_HR_takeToldPlaces.cls ≠ "java/lang/invoke/MethodHandle" ∧ y_HR_takeToldPlaces.cls ≠ "java/lang/invoke/VarHandle" ∧ (parseMethodDescriptor y_HR_takeToldPlaces.desc).map (fun d => d.parameters.length) = some 1 := by decide +kernel
theorem kd_HR_layOverRow : y_HR_layOverRow.cls ≠ "java/lang/invoke/MethodHandle" ∧ y_HR_layOverRow.cls ≠ "java/lang/invoke/VarHandle" ∧ (parseMethodDescriptor y_HR_layOverRow.desc).map (fun d => d.parameters.length) = some 1 := by decide +kernel
theorem kd_HR_raiseDigits : y_HR_raiseDigits.cls ≠ "java/lang/invoke/MethodHandle" ∧ y_HR_raiseDigits.cls ≠ "java/lang/invoke/VarHandle" ∧ (parseMethodDescriptor y_HR_raiseDigits.desc).map (fun d => d.parameters.length) = some 2 := by decide +kernel
theorem kd_HR_at : y_HR_at.cls ≠ "java/lang/invoke/MethodHandle" ∧ y_HR_at.cls ≠ "java/lang/invoke/VarHandle" ∧ (parseMethodDescriptor y_HR_at.desc).map (fun d => d.parameters.length) = some 1 := by decide +kernel
theorem kd_HR_digit : y_HR_digit.cls ≠ "java/lang/invoke/MethodHandle" ∧ y_HR_digit.cls ≠ "java/lang/invoke/VarHandle" ∧ (parseMethodDescriptor y_HR_digit.desc).map (fun d => d.parameters.length) = some 2 := by decide +kernel
theorem kd_HR_patterns : y_HR_patterns.cls ≠ "java/lang/invoke/MethodHandle" ∧ y_HR_patterns.cls ≠ "java/lang/invoke/VarHandle" ∧ (parseMethodDescriptor y_HR_patterns.desc).map (fun d => d.parameters.length) = some 0 := by decide +kernel
theorem kd_HR_exceptions : y_HR_exceptions.cls ≠ "java/lang/invoke/MethodHandle" ∧ y_HR_exceptions.cls ≠ "java/lang/invoke/VarHandle" ∧ (parseMethodDescriptor y_HR_exceptions.desc).map (fun d => d.parameters.length) = some 0 := by decide +kernel
theorem kd_Mo_init : y_Mo_init.cls ≠ "java/lang/invoke/MethodHandle" ∧ y_Mo_init.cls ≠ "java/lang/invoke/VarHandle" ∧ (parseMethodDescriptor y_Mo_init.desc).map (fun d => d.parameters.length) = some 0 := by decide +kernel
theorem kd_Mo_language : y_Mo_language.cls ≠ "java/lang/invoke/MethodHandle" ∧ y_Mo_language.cls ≠ "java/lang/invoke/VarHandle" ∧ (parseMethodDescriptor y_Mo_language.desc).map (fun d => d.parameters.length) = some 0 := by decide +kernel
theorem kd_Mo_code : y_Mo_code.cls ≠ "java/lang/invoke/MethodHandle" ∧ y_Mo_code.cls ≠ "java/lang/invoke/VarHandle" ∧ (parseMethodDescriptor y_Mo_code.desc).map (fun d => d.parameters.length) = some 4 := by decide +kernel
theorem kd_Mo_isLanguage : y_Mo_isLanguage.cls ≠ "java/lang/invoke/MethodHandle" ∧ y_Mo_isLanguage.cls ≠ "java/lang/invoke/VarHandle" ∧ (parseMethodDescriptor y_Mo_isLanguage.desc).map (fun d => d.parameters.length) = some 1 := by decide +kernel
theorem kd_Mo_in : y_Mo_in.cls ≠ "java/lang/invoke/MethodHandle" ∧ y_Mo_in.cls ≠ "java/lang/invoke/VarHandle" ∧ (parseMethodDescriptor y_Mo_in.desc).map (fun d => d.parameters.length) = some 3 := by decide +kernel
theorem kd_Mo_ends : y_Mo_ends.cls ≠ "java/lang/invoke/MethodHandle" ∧ y_Mo_ends.cls ≠ "java/lang/invoke/VarHandle" ∧ (parseMethodDescriptor y_Mo_ends.desc).map (fun d => d.parameters.length) = some 4 := by decide +kernel
theorem kd_Mo_next : y_Mo_next.cls ≠ "java/lang/invoke/MethodHandle" ∧ y_Mo_next.cls ≠ "java/lang/invoke/VarHandle" ∧ (parseMethodDescriptor y_Mo_next.desc).map (fun d => d.parameters.length) = some 2 := by decide +kernel
theorem kd_Mo_pattern : y_Mo_pattern.cls ≠ "java/lang/invoke/MethodHandle" ∧ y_Mo_pattern.cls ≠ "java/lang/invoke/VarHandle" ∧ (parseMethodDescriptor y_Mo_pattern.desc).map (fun d => d.parameters.length) = some 2 := by decide +kernel
theorem kd_Mo_isSame : y_Mo_isSame.cls ≠ "java/lang/invoke/MethodHandle" ∧ y_Mo_isSame.cls ≠ "java/lang/invoke/VarHandle" ∧ (parseMethodDescriptor y_Mo_isSame.desc).map (fun d => d.parameters.length) = some 2 := by decide +kernel
theorem kd_Mo_isPattern : y_Mo_isPattern.cls ≠ "java/lang/invoke/MethodHandle" ∧ y_Mo_isPattern.cls ≠ "java/lang/invoke/VarHandle" ∧ (parseMethodDescriptor y_Mo_isPattern.desc).map (fun d => d.parameters.length) = some 0 := by decide +kernel
theorem kd_Mo_sign : y_Mo_sign.cls ≠ "java/lang/invoke/MethodHandle" ∧ y_Mo_sign.cls ≠ "java/lang/invoke/VarHandle" ∧ (parseMethodDescriptor y_Mo_sign.desc).map (fun d => d.parameters.length) = some 1 := by decide +kernel
theorem kd_Mo_clear : y_Mo_clear.cls ≠ "java/lang/invoke/MethodHandle" ∧ y_Mo_clear.cls ≠ "java/lang/invoke/VarHandle" ∧ (parseMethodDescriptor y_Mo_clear.desc).map (fun d => d.parameters.length) = some 0 := by decide +kernel
theorem kd_Mo_exception : y_Mo_exception.cls ≠ "java/lang/invoke/MethodHandle" ∧ y_Mo_exception.cls ≠ "java/lang/invoke/VarHandle" ∧ (parseMethodDescriptor y_Mo_exception.desc).map (fun d => d.parameters.length) = some 2 := by decide +kernel
theorem kd_Mo_spell : y_Mo_spell.cls ≠ "java/lang/invoke/MethodHandle" ∧ y_Mo_spell.cls ≠ "java/lang/invoke/VarHandle" ∧ (parseMethodDescriptor y_Mo_spell.desc).map (fun d => d.parameters.length) = some 1 := by decide +kernel
theorem kd_Mo_exceptionOf : y_Mo_exceptionOf.cls ≠ "java/lang/invoke/MethodHandle" ∧ y_Mo_exceptionOf.cls ≠ "java/lang/invoke/VarHandle" ∧ (parseMethodDescriptor y_Mo_exceptionOf.desc).map (fun d => d.parameters.length) = some 1 := by decide +kernel
theorem kd_Mo_drop : y_Mo_drop.cls ≠ "java/lang/invoke/MethodHandle" ∧ y_Mo_drop.cls ≠ "java/lang/invoke/VarHandle" ∧ (parseMethodDescriptor y_Mo_drop.desc).map (fun d => d.parameters.length) = some 1 := by decide +kernel
theorem kd_Mo_run : y_Mo_run.cls ≠ "java/lang/invoke/MethodHandle" ∧ y_Mo_run.cls ≠ "java/lang/invoke/VarHandle" ∧ (parseMethodDescriptor y_Mo_run.desc).map (fun d => d.parameters.length) = some 1 := by decide +kernel
theorem kd_Mo_digitOf : y_Mo_digitOf.cls ≠ "java/lang/invoke/MethodHandle" ∧ y_Mo_digitOf.cls ≠ "java/lang/invoke/VarHandle" ∧ (parseMethodDescriptor y_Mo_digitOf.desc).map (fun d => d.parameters.length) = some 2 := by decide +kernel
theorem kd_Mo_stands : y_Mo_stands.cls ≠ "java/lang/invoke/MethodHandle" ∧ y_Mo_stands.cls ≠ "java/lang/invoke/VarHandle" ∧ (parseMethodDescriptor y_Mo_stands.desc).map (fun d => d.parameters.length) = some 2 := by decide +kernel
theorem kd_Mo_at : y_Mo_at.cls ≠ "java/lang/invoke/MethodHandle" ∧ y_Mo_at.cls ≠ "java/lang/invoke/VarHandle" ∧ (parseMethodDescriptor y_Mo_at.desc).map (fun d => d.parameters.length) = some 1 := by decide +kernel
theorem kd_Mo_digit : y_Mo_digit.cls ≠ "java/lang/invoke/MethodHandle" ∧ y_Mo_digit.cls ≠ "java/lang/invoke/VarHandle" ∧ (parseMethodDescriptor y_Mo_digit.desc).map (fun d => d.parameters.length) = some 2 := by decide +kernel
theorem kd_Mo_patterns : y_Mo_patterns.cls ≠ "java/lang/invoke/MethodHandle" ∧ y_Mo_patterns.cls ≠ "java/lang/invoke/VarHandle" ∧ (parseMethodDescriptor y_Mo_patterns.desc).map (fun d => d.parameters.length) = some 0 := by decide +kernel
theorem kd_Mo_exceptions : y_Mo_exceptions.cls ≠ "java/lang/invoke/MethodHandle" ∧ y_Mo_exceptions.cls ≠ "java/lang/invoke/VarHandle" ∧ (parseMethodDescriptor y_Mo_exceptions.desc).map (fun d => d.parameters.length) = some 0 := by decide +kernel
