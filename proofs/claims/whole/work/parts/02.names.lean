/-! names, words and decode rows, laid by wip/whole/names.py out of the tables and the listing -/
abbrev RX0 : String := "ListWeave$Element"
def TX0 : u_T := fun k => match k with
  | 0 => ("ListWeave$Element", "id", "I", true)
  | 1 => ("ListWeave$Element", "behind", "I", true)
  | 2 => ("ListWeave$Element", "way", "I", true)
  | 3 => ("ListWeave$Element", "followers", "I", false)
  | 4 => ("ListWeave$Element", "sets", "I", false)
  | 5 => ("ListWeave$Element", "removes", "I", false)
  | 6 => ("ListWeave$Element", "standing", "I", false)
  | 7 => ("ListWeave$Element", "kind", "I", false)
  | _ => ("ListWeave$Element", "value", "I", false)
def tyX0 : Nat → FieldType := fun k => match k with
  | 0 => .int
  | 1 => .int
  | 2 => .int
  | 3 => .int
  | 4 => .int
  | 5 => .int
  | 6 => .int
  | 7 => .int
  | _ => .int
theorem nmX0 : ∀ a, a < 9 → ∀ b, b < 9 → a ≠ b → (TX0 a).2.1 ≠ (TX0 b).2.1 := by decide +kernel
theorem tyX0_ok : ∀ k, k < 9 → parseFieldDescriptor (TX0 k).2.2.1 = some (tyX0 k) := by decide +kernel
abbrev RX1 : String := "ListWeave$UsedIds"
def TX1 : u_T := fun k => match k with
  | 0 => ("ListWeave$UsedIds", "ids", "[I", true)
  | _ => ("ListWeave$UsedIds", "count", "I", false)
def tyX1 : Nat → FieldType := fun k => match k with
  | 0 => .array .int
  | _ => .int
theorem nmX1 : ∀ a, a < 2 → ∀ b, b < 2 → a ≠ b → (TX1 a).2.1 ≠ (TX1 b).2.1 := by decide +kernel
theorem tyX1_ok : ∀ k, k < 2 → parseFieldDescriptor (TX1 k).2.2.1 = some (tyX1 k) := by decide +kernel
abbrev RX2 : String := "ListWeave"
def TX2 : u_T := fun k => match k with
  | 0 => ("ListWeave", "used", "LListWeave$UsedIds;", true)
  | 1 => ("ListWeave", "beginning", "LListWeave$Element;", true)
  | 2 => ("ListWeave", "woven", "[LListWeave$Element;", true)
  | 3 => ("ListWeave", "elements", "I", false)
  | _ => ("ListWeave", "changes", "I", false)
def tyX2 : Nat → FieldType := fun k => match k with
  | 0 => .object "ListWeave$UsedIds"
  | 1 => .object "ListWeave$Element"
  | 2 => .array (.object "ListWeave$Element")
  | 3 => .int
  | _ => .int
theorem nmX2 : ∀ a, a < 5 → ∀ b, b < 5 → a ≠ b → (TX2 a).2.1 ≠ (TX2 b).2.1 := by decide +kernel
theorem tyX2_ok : ∀ k, k < 5 → parseFieldDescriptor (TX2 k).2.2.1 = some (tyX2 k) := by decide +kernel
abbrev RX3 : String := "ListWeaveModel"
def TX3 : u_T := fun k => match k with
  | 0 => ("ListWeaveModel", "thrown", "I", false)
  | 1 => ("ListWeaveModel", "many", "I", false)
  | 2 => ("ListWeaveModel", "ids", "[I", true)
  | 3 => ("ListWeaveModel", "behinds", "[I", true)
  | 4 => ("ListWeaveModel", "kinds", "[I", true)
  | 5 => ("ListWeaveModel", "values", "[I", true)
  | 6 => ("ListWeaveModel", "done", "I", false)
  | 7 => ("ListWeaveModel", "doneIds", "[I", true)
  | 8 => ("ListWeaveModel", "doneOf", "[I", true)
  | 9 => ("ListWeaveModel", "doneKinds", "[I", true)
  | 10 => ("ListWeaveModel", "doneValues", "[I", true)
  | 11 => ("ListWeaveModel", "order", "[I", true)
  | _ => ("ListWeaveModel", "stack", "[I", true)
def tyX3 : Nat → FieldType := fun k => match k with
  | 0 => .int
  | 1 => .int
  | 2 => .array .int
  | 3 => .array .int
  | 4 => .array .int
  | 5 => .array .int
  | 6 => .int
  | 7 => .array .int
  | 8 => .array .int
  | 9 => .array .int
  | 10 => .array .int
  | 11 => .array .int
  | _ => .array .int
theorem nmX3 : ∀ a, a < 13 → ∀ b, b < 13 → a ≠ b → (TX3 a).2.1 ≠ (TX3 b).2.1 := by decide +kernel
theorem tyX3_ok : ∀ k, k < 13 → parseFieldDescriptor (TX3 k).2.2.1 = some (tyX3 k) := by decide +kernel
abbrev RL : String := "ListWeaveLaw"
abbrev cl_ : List vw_C := [(RX0, TX0, 9), (RX1, TX1, 2), (RX2, TX2, 5), (RX3, TX3, 13)]
abbrev cX2_init : ByteArray := prog_1_method_1_code
abbrev yX2_init : MethodName := ⟨"ListWeave", "<init>", "()V"⟩
abbrev cX2_clear : ByteArray := prog_1_method_2_code
abbrev yX2_clear : MethodName := ⟨"ListWeave", "clear", "()V"⟩
abbrev cX2_insert : ByteArray := prog_1_method_3_code
abbrev yX2_insert : MethodName := ⟨"ListWeave", "insert", "(IIII)Z"⟩
abbrev cX2_run : ByteArray := prog_1_method_4_code
abbrev yX2_run : MethodName := ⟨"ListWeave", "run", "(IIIJ)Z"⟩
abbrev cX2_set : ByteArray := prog_1_method_5_code
abbrev yX2_set : MethodName := ⟨"ListWeave", "set", "(IIII)Z"⟩
abbrev cX2_remove : ByteArray := prog_1_method_6_code
abbrev yX2_remove : MethodName := ⟨"ListWeave", "remove", "(II)Z"⟩
abbrev cX2_size : ByteArray := prog_1_method_7_code
abbrev yX2_size : MethodName := ⟨"ListWeave", "size", "()I"⟩
abbrev cX2_at : ByteArray := prog_1_method_8_code
abbrev yX2_at : MethodName := ⟨"ListWeave", "at", "(II)I"⟩
abbrev cX2_place : ByteArray := prog_1_method_9_code
abbrev yX2_place : MethodName := ⟨"ListWeave", "place", "(I)I"⟩
abbrev cX2_ahead : ByteArray := prog_1_method_10_code
abbrev yX2_ahead : MethodName := ⟨"ListWeave", "ahead", "(I)I"⟩
abbrev cX2_before : ByteArray := prog_1_method_11_code
abbrev yX2_before : MethodName := ⟨"ListWeave", "before", "(II)Z"⟩
abbrev cX2_row : ByteArray := prog_1_method_12_code
abbrev yX2_row : MethodName := ⟨"ListWeave", "row", "(I)I"⟩
abbrev cX2_of : ByteArray := prog_1_method_13_code
abbrev yX2_of : MethodName := ⟨"ListWeave", "of", "(II)I"⟩
abbrev cX2_sum : ByteArray := prog_1_method_14_code
abbrev yX2_sum : MethodName := ⟨"ListWeave", "sum", "(II)J"⟩
abbrev cX2_look : ByteArray := prog_1_method_15_code
abbrev yX2_look : MethodName := ⟨"ListWeave", "look", "(I)I"⟩
abbrev cX2_isFree : ByteArray := prog_1_method_16_code
abbrev yX2_isFree : MethodName := ⟨"ListWeave", "isFree", "(I)Z"⟩
abbrev cX2_areFree : ByteArray := prog_1_method_17_code
abbrev yX2_areFree : MethodName := ⟨"ListWeave", "areFree", "(II)Z"⟩
abbrev cX2_isKind : ByteArray := prog_1_method_18_code
abbrev yX2_isKind : MethodName := ⟨"ListWeave", "isKind", "(I)Z"⟩
abbrev cX2_mayChange : ByteArray := prog_1_method_19_code
abbrev yX2_mayChange : MethodName := ⟨"ListWeave", "mayChange", "(II)Z"⟩
abbrev cX2_countChange : ByteArray := prog_1_method_20_code
abbrev yX2_countChange : MethodName := ⟨"ListWeave", "countChange", "(I)V"⟩
abbrev cX2_byteOf : ByteArray := prog_1_method_21_code
abbrev yX2_byteOf : MethodName := ⟨"ListWeave", "byteOf", "(JI)I"⟩
abbrev cX2_weave : ByteArray := prog_1_method_22_code
abbrev yX2_weave : MethodName := ⟨"ListWeave", "weave", "(ILListWeave$Element;II)LListWeave$Element;"⟩
abbrev cX2_rowForNew : ByteArray := prog_1_method_23_code
abbrev yX2_rowForNew : MethodName := ⟨"ListWeave", "rowForNew", "(ILListWeave$Element;)I"⟩
abbrev cX2_rowOf : ByteArray := prog_1_method_24_code
abbrev yX2_rowOf : MethodName := ⟨"ListWeave", "rowOf", "(I)I"⟩
abbrev cX2_elementOf : ByteArray := prog_1_method_25_code
abbrev yX2_elementOf : MethodName := ⟨"ListWeave", "elementOf", "(I)LListWeave$Element;"⟩
abbrev cX2_elementOrBeginning : ByteArray := prog_1_method_26_code
abbrev yX2_elementOrBeginning : MethodName := ⟨"ListWeave", "elementOrBeginning", "(I)LListWeave$Element;"⟩
abbrev cX2_elementAt : ByteArray := prog_1_method_27_code
abbrev yX2_elementAt : MethodName := ⟨"ListWeave", "elementAt", "(I)LListWeave$Element;"⟩
abbrev cX2_visibleUpTo : ByteArray := prog_1_method_28_code
abbrev yX2_visibleUpTo : MethodName := ⟨"ListWeave", "visibleUpTo", "(I)I"⟩
abbrev cX2_longestWay : ByteArray := prog_1_method_29_code
abbrev yX2_longestWay : MethodName := ⟨"ListWeave", "longestWay", "()I"⟩
abbrev cX3_init : ByteArray := prog_5_method_1_code
abbrev yX3_init : MethodName := ⟨"ListWeaveModel", "<init>", "()V"⟩
abbrev cX3_thrown : ByteArray := prog_5_method_2_code
abbrev yX3_thrown : MethodName := ⟨"ListWeaveModel", "thrown", "()I"⟩
abbrev cX3_placeOf : ByteArray := prog_5_method_3_code
abbrev yX3_placeOf : MethodName := ⟨"ListWeaveModel", "placeOf", "(I)I"⟩
abbrev cX3_isNew : ByteArray := prog_5_method_4_code
abbrev yX3_isNew : MethodName := ⟨"ListWeaveModel", "isNew", "(I)Z"⟩
abbrev cX3_isKind : ByteArray := prog_5_method_5_code
abbrev yX3_isKind : MethodName := ⟨"ListWeaveModel", "isKind", "(I)Z"⟩
abbrev cX3_keep : ByteArray := prog_5_method_6_code
abbrev yX3_keep : MethodName := ⟨"ListWeaveModel", "keep", "(IIII)V"⟩
abbrev cX3_canInsert : ByteArray := prog_5_method_7_code
abbrev yX3_canInsert : MethodName := ⟨"ListWeaveModel", "canInsert", "(II)Z"⟩
abbrev cX3_clear : ByteArray := prog_5_method_8_code
abbrev yX3_clear : MethodName := ⟨"ListWeaveModel", "clear", "()V"⟩
abbrev cX3_insert : ByteArray := prog_5_method_9_code
abbrev yX3_insert : MethodName := ⟨"ListWeaveModel", "insert", "(IIII)Z"⟩
abbrev cX3_run : ByteArray := prog_5_method_10_code
abbrev yX3_run : MethodName := ⟨"ListWeaveModel", "run", "(IIIJ)Z"⟩
abbrev cX3_does : ByteArray := prog_5_method_11_code
abbrev yX3_does : MethodName := ⟨"ListWeaveModel", "does", "(IIII)Z"⟩
abbrev cX3_set : ByteArray := prog_5_method_12_code
abbrev yX3_set : MethodName := ⟨"ListWeaveModel", "set", "(IIII)Z"⟩
abbrev cX3_remove : ByteArray := prog_5_method_13_code
abbrev yX3_remove : MethodName := ⟨"ListWeaveModel", "remove", "(II)Z"⟩
abbrev cX3_isRemoved : ByteArray := prog_5_method_14_code
abbrev yX3_isRemoved : MethodName := ⟨"ListWeaveModel", "isRemoved", "(I)Z"⟩
abbrev cX3_standing : ByteArray := prog_5_method_15_code
abbrev yX3_standing : MethodName := ⟨"ListWeaveModel", "standing", "(I)I"⟩
abbrev cX3_kindOf : ByteArray := prog_5_method_16_code
abbrev yX3_kindOf : MethodName := ⟨"ListWeaveModel", "kindOf", "(I)I"⟩
abbrev cX3_valueOf : ByteArray := prog_5_method_17_code
abbrev yX3_valueOf : MethodName := ⟨"ListWeaveModel", "valueOf", "(I)I"⟩
abbrev cX3_push : ByteArray := prog_5_method_18_code
abbrev yX3_push : MethodName := ⟨"ListWeaveModel", "push", "(II)I"⟩
abbrev cX3_weave : ByteArray := prog_5_method_19_code
abbrev yX3_weave : MethodName := ⟨"ListWeaveModel", "weave", "()V"⟩
abbrev cX3_elementAt : ByteArray := prog_5_method_20_code
abbrev yX3_elementAt : MethodName := ⟨"ListWeaveModel", "elementAt", "(I)I"⟩
abbrev cX3_sizeOf : ByteArray := prog_5_method_21_code
abbrev yX3_sizeOf : MethodName := ⟨"ListWeaveModel", "sizeOf", "()I"⟩
abbrev cX3_size : ByteArray := prog_5_method_22_code
abbrev yX3_size : MethodName := ⟨"ListWeaveModel", "size", "()I"⟩
abbrev cX3_idStanding : ByteArray := prog_5_method_23_code
abbrev yX3_idStanding : MethodName := ⟨"ListWeaveModel", "idStanding", "(I)I"⟩
abbrev cX3_at : ByteArray := prog_5_method_24_code
abbrev yX3_at : MethodName := ⟨"ListWeaveModel", "at", "(II)I"⟩
abbrev cX3_aheadOf : ByteArray := prog_5_method_25_code
abbrev yX3_aheadOf : MethodName := ⟨"ListWeaveModel", "aheadOf", "(I)I"⟩
abbrev cX3_place : ByteArray := prog_5_method_26_code
abbrev yX3_place : MethodName := ⟨"ListWeaveModel", "place", "(I)I"⟩
abbrev cX3_ahead : ByteArray := prog_5_method_27_code
abbrev yX3_ahead : MethodName := ⟨"ListWeaveModel", "ahead", "(I)I"⟩
abbrev cX3_rowOf : ByteArray := prog_5_method_28_code
abbrev yX3_rowOf : MethodName := ⟨"ListWeaveModel", "rowOf", "(I)I"⟩
abbrev cX3_before : ByteArray := prog_5_method_29_code
abbrev yX3_before : MethodName := ⟨"ListWeaveModel", "before", "(II)Z"⟩
abbrev cX3_row : ByteArray := prog_5_method_30_code
abbrev yX3_row : MethodName := ⟨"ListWeaveModel", "row", "(I)I"⟩
abbrev cX3_counted : ByteArray := prog_5_method_31_code
abbrev yX3_counted : MethodName := ⟨"ListWeaveModel", "counted", "(II)I"⟩
abbrev cX3_of : ByteArray := prog_5_method_32_code
abbrev yX3_of : MethodName := ⟨"ListWeaveModel", "of", "(II)I"⟩
abbrev cX3_sum : ByteArray := prog_5_method_33_code
abbrev yX3_sum : MethodName := ⟨"ListWeaveModel", "sum", "(II)J"⟩
abbrev cX3_deepest : ByteArray := prog_5_method_34_code
abbrev yX3_deepest : MethodName := ⟨"ListWeaveModel", "deepest", "()I"⟩
abbrev cX3_greatest : ByteArray := prog_5_method_35_code
abbrev yX3_greatest : MethodName := ⟨"ListWeaveModel", "greatest", "()I"⟩
abbrev cX3_look : ByteArray := prog_5_method_36_code
abbrev yX3_look : MethodName := ⟨"ListWeaveModel", "look", "(I)I"⟩
abbrev cX0_init : ByteArray := prog_2_method_1_code
abbrev yX0_init : MethodName := ⟨"ListWeave$Element", "<init>", "(III)V"⟩
abbrev cX0_isVisible : ByteArray := prog_2_method_2_code
abbrev yX0_isVisible : MethodName := ⟨"ListWeave$Element", "isVisible", "()Z"⟩
abbrev cX0_offer : ByteArray := prog_2_method_3_code
abbrev yX0_offer : MethodName := ⟨"ListWeave$Element", "offer", "(III)V"⟩
abbrev cX1_init : ByteArray := prog_3_method_1_code
abbrev yX1_init : MethodName := ⟨"ListWeave$UsedIds", "<init>", "()V"⟩
abbrev cX1_forgetAll : ByteArray := prog_3_method_2_code
abbrev yX1_forgetAll : MethodName := ⟨"ListWeave$UsedIds", "forgetAll", "()V"⟩
abbrev cX1_has : ByteArray := prog_3_method_3_code
abbrev yX1_has : MethodName := ⟨"ListWeave$UsedIds", "has", "(I)Z"⟩
abbrev cX1_note : ByteArray := prog_3_method_4_code
abbrev yX1_note : MethodName := ⟨"ListWeave$UsedIds", "note", "(I)V"⟩
abbrev cX1_greatest : ByteArray := prog_3_method_5_code
abbrev yX1_greatest : MethodName := ⟨"ListWeave$UsedIds", "greatest", "()I"⟩
abbrev cX1_firstNotBelow : ByteArray := prog_3_method_6_code
abbrev yX1_firstNotBelow : MethodName := ⟨"ListWeave$UsedIds", "firstNotBelow", "(I)I"⟩
abbrev cL_at : ByteArray := method_3_code
abbrev yL_at : MethodName := ⟨"ListWeaveLaw", "at", "(LListWeave;II[J)I"⟩
abbrev cL_ahead : ByteArray := method_4_code
abbrev yL_ahead : MethodName := ⟨"ListWeaveLaw", "ahead", "(LListWeave;I[J)I"⟩
abbrev cL_before : ByteArray := method_5_code
abbrev yL_before : MethodName := ⟨"ListWeaveLaw", "before", "(LListWeave;II[J)I"⟩
abbrev cL_row : ByteArray := method_6_code
abbrev yL_row : MethodName := ⟨"ListWeaveLaw", "row", "(LListWeave;I[J)I"⟩
abbrev cL_of : ByteArray := method_7_code
abbrev yL_of : MethodName := ⟨"ListWeaveLaw", "of", "(LListWeave;II[J)I"⟩
abbrev cL_law : ByteArray := code
abbrev yL_law : MethodName := ⟨"ListWeaveLaw", "law", "([I)Z"⟩
/-- the good words of the tables: one list for every method -/
def gw : List Cond := lw_tbl.filter goodWord
theorem gw_of {i : Nat} {w : Cond} (h : tables_1[i]? = some w) (hg : goodWord w = true) : w ∈ gw := List.mem_filter.mpr ⟨List.mem_append_right _ (List.mem_of_getElem? h), hg⟩
theorem gw_pr {i : Nat} {q : MethodName × Nat} (h : lw_privs[i]? = some q) : Cond.selects q.1.cls q.1 q.1 ∈ gw := List.mem_filter.mpr ⟨List.mem_append_left _ (List.mem_map.mpr ⟨q, List.mem_of_getElem? h, rfl⟩), rfl⟩
theorem gw_in : ∀ w ∈ gw, w ∈ lw_tbl := fun _ h => (List.mem_filter.mp h).1
theorem gw_good : ∀ w ∈ gw, goodWord w = true := fun _ h => (List.mem_filter.mp h).2
theorem wk_0 : (Jvm.Cond.initialized "ListWeaveLaw") ∈ gw := gw_of (i := 0) (by decide +kernel) (by decide +kernel)
theorem wk_1 : (Jvm.Cond.initialized "ListWeave") ∈ gw := gw_of (i := 1) (by decide +kernel) (by decide +kernel)
theorem wk_2 : (Jvm.Cond.initialized "ListWeave$UsedIds") ∈ gw := gw_of (i := 2) (by decide +kernel) (by decide +kernel)
theorem wk_3 : (Jvm.Cond.initialized "ListWeave$Element") ∈ gw := gw_of (i := 3) (by decide +kernel) (by decide +kernel)
theorem wk_4 : (Jvm.Cond.initialized "ListWeaveModel") ∈ gw := gw_of (i := 4) (by decide +kernel) (by decide +kernel)
theorem wk_5 : (Jvm.Cond.initialized "java/lang/System") ∈ gw := gw_of (i := 5) (by decide +kernel) (by decide +kernel)
theorem wk_6 : (Jvm.Cond.initialized "java/lang/Throwable") ∈ gw := gw_of (i := 6) (by decide +kernel) (by decide +kernel)
theorem wk_7 : (Jvm.Cond.initialized "java/lang/Exception") ∈ gw := gw_of (i := 7) (by decide +kernel) (by decide +kernel)
theorem wk_8 : (Jvm.Cond.initialized "java/lang/RuntimeException") ∈ gw := gw_of (i := 8) (by decide +kernel) (by decide +kernel)
theorem wk_9 : (Jvm.Cond.initialized "java/lang/IndexOutOfBoundsException") ∈ gw := gw_of (i := 9) (by decide +kernel) (by decide +kernel)
theorem wk_10 : (Jvm.Cond.initialized "java/lang/IllegalArgumentException") ∈ gw := gw_of (i := 10) (by decide +kernel) (by decide +kernel)
theorem wk_11 : (Jvm.Cond.initialized "java/lang/Math") ∈ gw := gw_of (i := 11) (by decide +kernel) (by decide +kernel)
theorem wk_12 : (Jvm.Cond.classLink "ListWeaveLaw" (8 : Nat) "ListWeave") ∈ gw := gw_of (i := 12) (by decide +kernel) (by decide +kernel)
theorem wk_13 : (Jvm.Cond.instantiable "ListWeave" (5 : Nat)) ∈ gw := gw_of (i := 13) (by decide +kernel) (by decide +kernel)
theorem wk_14 : (Jvm.Cond.methodLink "ListWeaveLaw" (31 : Nat) ({ cls := "ListWeave", name := "<init>", desc := "()V" } : Jvm.MethodName)) ∈ gw := gw_of (i := 14) (by decide +kernel) (by decide +kernel)
theorem wk_15 : (Jvm.Cond.instanceMethod ({ cls := "ListWeave", name := "<init>", desc := "()V" } : Jvm.MethodName)) ∈ gw := gw_of (i := 15) (by decide +kernel) (by decide +kernel)
theorem wk_16 : (Jvm.Cond.code ({ cls := "ListWeave", name := "<init>", desc := "()V" } : Jvm.MethodName) prog_1_method_1_code (1 : Nat) (Option.none : Option Jvm.ClassFile.FieldType)) ∈ gw := gw_of (i := 16) (by decide +kernel) (by decide +kernel)
theorem wk_17 : (Jvm.Cond.methodLink "ListWeave" (1 : Nat) ({ cls := "java/lang/Object", name := "<init>", desc := "()V" } : Jvm.MethodName)) ∈ gw := gw_of (i := 17) (by decide +kernel) (by decide +kernel)
theorem wk_18 : (Jvm.Cond.instanceMethod ({ cls := "java/lang/Object", name := "<init>", desc := "()V" } : Jvm.MethodName)) ∈ gw := gw_of (i := 18) (by decide +kernel) (by decide +kernel)
theorem wk_19 : (Jvm.Cond.code ({ cls := "java/lang/Object", name := "<init>", desc := "()V" } : Jvm.MethodName) object_method_1_code (1 : Nat) (Option.none : Option Jvm.ClassFile.FieldType)) ∈ gw := gw_of (i := 19) (by decide +kernel) (by decide +kernel)
theorem wk_20 : (Jvm.Cond.classLink "ListWeave" (7 : Nat) "ListWeave$UsedIds") ∈ gw := gw_of (i := 20) (by decide +kernel) (by decide +kernel)
theorem wk_21 : (Jvm.Cond.instantiable "ListWeave$UsedIds" (2 : Nat)) ∈ gw := gw_of (i := 21) (by decide +kernel) (by decide +kernel)
theorem wk_23 : (Jvm.Cond.instanceMethod ({ cls := "ListWeave$UsedIds", name := "<init>", desc := "()V" } : Jvm.MethodName)) ∈ gw := gw_of (i := 23) (by decide +kernel) (by decide +kernel)
theorem wk_24 : (Jvm.Cond.code ({ cls := "ListWeave$UsedIds", name := "<init>", desc := "()V" } : Jvm.MethodName) prog_3_method_1_code (1 : Nat) (Option.none : Option Jvm.ClassFile.FieldType)) ∈ gw := gw_of (i := 24) (by decide +kernel) (by decide +kernel)
theorem wk_25 : (Jvm.Cond.methodLink "ListWeave$UsedIds" (3 : Nat) ({ cls := "java/lang/Object", name := "<init>", desc := "()V" } : Jvm.MethodName)) ∈ gw := gw_of (i := 25) (by decide +kernel) (by decide +kernel)
theorem wk_26 : (Jvm.Cond.fieldLink "ListWeave$UsedIds" (9 : Nat) "ListWeave$UsedIds" "ids" "[I") ∈ gw := gw_of (i := 26) (by decide +kernel) (by decide +kernel)
theorem wk_27 : (Jvm.Cond.fieldLink "ListWeave$UsedIds" (15 : Nat) "ListWeave$UsedIds" "count" "I") ∈ gw := gw_of (i := 27) (by decide +kernel) (by decide +kernel)
theorem wk_28 : (Jvm.Cond.laysFinal "ListWeave$UsedIds" "ListWeave$UsedIds" "ids" "[I") ∈ gw := gw_of (i := 28) (by decide +kernel) (by decide +kernel)
theorem wk_30 : (Jvm.Cond.lays "ListWeave$UsedIds" "ListWeave$UsedIds" "count" "I") ∈ gw := gw_of (i := 30) (by decide +kernel) (by decide +kernel)
theorem wk_33 : (Jvm.Cond.arrayClass Jvm.ClassFile.FieldType.int) ∈ gw := gw_of (i := 33) (by decide +kernel) (by decide +kernel)
theorem wk_34 : (Jvm.Cond.classLink "ListWeave" (16 : Nat) "ListWeave$Element") ∈ gw := gw_of (i := 34) (by decide +kernel) (by decide +kernel)
theorem wk_35 : (Jvm.Cond.instantiable "ListWeave$Element" (9 : Nat)) ∈ gw := gw_of (i := 35) (by decide +kernel) (by decide +kernel)
theorem wk_37 : (Jvm.Cond.instanceMethod ({ cls := "ListWeave$Element", name := "<init>", desc := "(III)V" } : Jvm.MethodName)) ∈ gw := gw_of (i := 37) (by decide +kernel) (by decide +kernel)
theorem wk_38 : (Jvm.Cond.code ({ cls := "ListWeave$Element", name := "<init>", desc := "(III)V" } : Jvm.MethodName) prog_2_method_1_code (4 : Nat) (Option.none : Option Jvm.ClassFile.FieldType)) ∈ gw := gw_of (i := 38) (by decide +kernel) (by decide +kernel)
theorem wk_39 : (Jvm.Cond.methodLink "ListWeave$Element" (3 : Nat) ({ cls := "java/lang/Object", name := "<init>", desc := "()V" } : Jvm.MethodName)) ∈ gw := gw_of (i := 39) (by decide +kernel) (by decide +kernel)
theorem wk_40 : (Jvm.Cond.fieldLink "ListWeave$Element" (9 : Nat) "ListWeave$Element" "id" "I") ∈ gw := gw_of (i := 40) (by decide +kernel) (by decide +kernel)
theorem wk_42 : (Jvm.Cond.fieldLink "ListWeave$Element" (15 : Nat) "ListWeave$Element" "behind" "I") ∈ gw := gw_of (i := 42) (by decide +kernel) (by decide +kernel)
theorem wk_44 : (Jvm.Cond.fieldLink "ListWeave$Element" (18 : Nat) "ListWeave$Element" "way" "I") ∈ gw := gw_of (i := 44) (by decide +kernel) (by decide +kernel)
theorem wk_46 : (Jvm.Cond.fieldLink "ListWeave$Element" (21 : Nat) "ListWeave$Element" "followers" "I") ∈ gw := gw_of (i := 46) (by decide +kernel) (by decide +kernel)
theorem wk_48 : (Jvm.Cond.fieldLink "ListWeave$Element" (24 : Nat) "ListWeave$Element" "sets" "I") ∈ gw := gw_of (i := 48) (by decide +kernel) (by decide +kernel)
theorem wk_50 : (Jvm.Cond.fieldLink "ListWeave$Element" (27 : Nat) "ListWeave$Element" "removes" "I") ∈ gw := gw_of (i := 50) (by decide +kernel) (by decide +kernel)
theorem wk_52 : (Jvm.Cond.fieldLink "ListWeave$Element" (30 : Nat) "ListWeave$Element" "standing" "I") ∈ gw := gw_of (i := 52) (by decide +kernel) (by decide +kernel)
theorem wk_54 : (Jvm.Cond.fieldLink "ListWeave$Element" (33 : Nat) "ListWeave$Element" "kind" "I") ∈ gw := gw_of (i := 54) (by decide +kernel) (by decide +kernel)
theorem wk_56 : (Jvm.Cond.fieldLink "ListWeave$Element" (36 : Nat) "ListWeave$Element" "value" "I") ∈ gw := gw_of (i := 56) (by decide +kernel) (by decide +kernel)
theorem wk_58 : (Jvm.Cond.laysFinal "ListWeave$Element" "ListWeave$Element" "id" "I") ∈ gw := gw_of (i := 58) (by decide +kernel) (by decide +kernel)
theorem wk_60 : (Jvm.Cond.laysFinal "ListWeave$Element" "ListWeave$Element" "behind" "I") ∈ gw := gw_of (i := 60) (by decide +kernel) (by decide +kernel)
theorem wk_62 : (Jvm.Cond.laysFinal "ListWeave$Element" "ListWeave$Element" "way" "I") ∈ gw := gw_of (i := 62) (by decide +kernel) (by decide +kernel)
theorem wk_64 : (Jvm.Cond.lays "ListWeave$Element" "ListWeave$Element" "followers" "I") ∈ gw := gw_of (i := 64) (by decide +kernel) (by decide +kernel)
theorem wk_66 : (Jvm.Cond.lays "ListWeave$Element" "ListWeave$Element" "sets" "I") ∈ gw := gw_of (i := 66) (by decide +kernel) (by decide +kernel)
theorem wk_68 : (Jvm.Cond.lays "ListWeave$Element" "ListWeave$Element" "removes" "I") ∈ gw := gw_of (i := 68) (by decide +kernel) (by decide +kernel)
theorem wk_70 : (Jvm.Cond.lays "ListWeave$Element" "ListWeave$Element" "standing" "I") ∈ gw := gw_of (i := 70) (by decide +kernel) (by decide +kernel)
theorem wk_72 : (Jvm.Cond.lays "ListWeave$Element" "ListWeave$Element" "kind" "I") ∈ gw := gw_of (i := 72) (by decide +kernel) (by decide +kernel)
theorem wk_74 : (Jvm.Cond.lays "ListWeave$Element" "ListWeave$Element" "value" "I") ∈ gw := gw_of (i := 74) (by decide +kernel) (by decide +kernel)
theorem wk_78 : (Jvm.Cond.fieldLink "ListWeave" (10 : Nat) "ListWeave" "used" "LListWeave$UsedIds;") ∈ gw := gw_of (i := 78) (by decide +kernel) (by decide +kernel)
theorem wk_79 : (Jvm.Cond.fieldLink "ListWeave" (21 : Nat) "ListWeave" "beginning" "LListWeave$Element;") ∈ gw := gw_of (i := 79) (by decide +kernel) (by decide +kernel)
theorem wk_80 : (Jvm.Cond.fieldLink "ListWeave" (25 : Nat) "ListWeave" "woven" "[LListWeave$Element;") ∈ gw := gw_of (i := 80) (by decide +kernel) (by decide +kernel)
theorem wk_81 : (Jvm.Cond.fieldLink "ListWeave" (29 : Nat) "ListWeave" "elements" "I") ∈ gw := gw_of (i := 81) (by decide +kernel) (by decide +kernel)
theorem wk_82 : (Jvm.Cond.fieldLink "ListWeave" (33 : Nat) "ListWeave" "changes" "I") ∈ gw := gw_of (i := 82) (by decide +kernel) (by decide +kernel)
theorem wk_83 : (Jvm.Cond.laysFinal "ListWeave" "ListWeave" "used" "LListWeave$UsedIds;") ∈ gw := gw_of (i := 83) (by decide +kernel) (by decide +kernel)
theorem wk_85 : (Jvm.Cond.laysFinal "ListWeave" "ListWeave" "beginning" "LListWeave$Element;") ∈ gw := gw_of (i := 85) (by decide +kernel) (by decide +kernel)
theorem wk_87 : (Jvm.Cond.laysFinal "ListWeave" "ListWeave" "woven" "[LListWeave$Element;") ∈ gw := gw_of (i := 87) (by decide +kernel) (by decide +kernel)
theorem wk_89 : (Jvm.Cond.lays "ListWeave" "ListWeave" "elements" "I") ∈ gw := gw_of (i := 89) (by decide +kernel) (by decide +kernel)
theorem wk_91 : (Jvm.Cond.lays "ListWeave" "ListWeave" "changes" "I") ∈ gw := gw_of (i := 91) (by decide +kernel) (by decide +kernel)
theorem wk_94 : (Jvm.Cond.methodLink "ListWeaveLaw" (35 : Nat) ({ cls := "ListWeave", name := "clear", desc := "()V" } : Jvm.MethodName)) ∈ gw := gw_of (i := 94) (by decide +kernel) (by decide +kernel)
theorem wk_95 : (Jvm.Cond.instanceMethod ({ cls := "ListWeave", name := "clear", desc := "()V" } : Jvm.MethodName)) ∈ gw := gw_of (i := 95) (by decide +kernel) (by decide +kernel)
theorem wk_96 : (Jvm.Cond.selects "ListWeave" ({ cls := "ListWeave", name := "clear", desc := "()V" } : Jvm.MethodName) ({ cls := "ListWeave", name := "clear", desc := "()V" } : Jvm.MethodName)) ∈ gw := gw_of (i := 96) (by decide +kernel) (by decide +kernel)
theorem wk_97 : (Jvm.Cond.code ({ cls := "ListWeave", name := "clear", desc := "()V" } : Jvm.MethodName) prog_1_method_2_code (1 : Nat) (Option.none : Option Jvm.ClassFile.FieldType)) ∈ gw := gw_of (i := 97) (by decide +kernel) (by decide +kernel)
theorem wk_100 : (Jvm.Cond.instanceMethod ({ cls := "ListWeave$UsedIds", name := "forgetAll", desc := "()V" } : Jvm.MethodName)) ∈ gw := gw_of (i := 100) (by decide +kernel) (by decide +kernel)
theorem wk_101 : (Jvm.Cond.code ({ cls := "ListWeave$UsedIds", name := "forgetAll", desc := "()V" } : Jvm.MethodName) prog_3_method_2_code (1 : Nat) (Option.none : Option Jvm.ClassFile.FieldType)) ∈ gw := gw_of (i := 101) (by decide +kernel) (by decide +kernel)
theorem wk_102 : (Jvm.Cond.methodLink "ListWeaveLaw" (39 : Nat) ({ cls := "ListWeave", name := "insert", desc := "(IIII)Z" } : Jvm.MethodName)) ∈ gw := gw_of (i := 102) (by decide +kernel) (by decide +kernel)
theorem wk_103 : (Jvm.Cond.instanceMethod ({ cls := "ListWeave", name := "insert", desc := "(IIII)Z" } : Jvm.MethodName)) ∈ gw := gw_of (i := 103) (by decide +kernel) (by decide +kernel)
theorem wk_104 : (Jvm.Cond.selects "ListWeave" ({ cls := "ListWeave", name := "insert", desc := "(IIII)Z" } : Jvm.MethodName) ({ cls := "ListWeave", name := "insert", desc := "(IIII)Z" } : Jvm.MethodName)) ∈ gw := gw_of (i := 104) (by decide +kernel) (by decide +kernel)
theorem wk_105 : (Jvm.Cond.code ({ cls := "ListWeave", name := "insert", desc := "(IIII)Z" } : Jvm.MethodName) prog_1_method_3_code (6 : Nat) (Option.some Jvm.ClassFile.FieldType.boolean)) ∈ gw := gw_of (i := 105) (by decide +kernel) (by decide +kernel)
theorem wk_106 : (Jvm.Cond.methodLink "ListWeave" (42 : Nat) ({ cls := "ListWeave", name := "elementOrBeginning", desc := "(I)LListWeave$Element;" } : Jvm.MethodName)) ∈ gw := gw_of (i := 106) (by decide +kernel) (by decide +kernel)
theorem wk_108 : (Jvm.Cond.instanceMethod ({ cls := "ListWeave", name := "elementOrBeginning", desc := "(I)LListWeave$Element;" } : Jvm.MethodName)) ∈ gw := gw_of (i := 108) (by decide +kernel) (by decide +kernel)
theorem wk_109 : (Jvm.Cond.code ({ cls := "ListWeave", name := "elementOrBeginning", desc := "(I)LListWeave$Element;" } : Jvm.MethodName) prog_1_method_26_code (2 : Nat) (Option.some (Jvm.ClassFile.FieldType.object "ListWeave$Element"))) ∈ gw := gw_of (i := 109) (by decide +kernel) (by decide +kernel)
theorem wk_110 : (Jvm.Cond.methodLink "ListWeave" (65 : Nat) ({ cls := "ListWeave", name := "elementOf", desc := "(I)LListWeave$Element;" } : Jvm.MethodName)) ∈ gw := gw_of (i := 110) (by decide +kernel) (by decide +kernel)
theorem wk_112 : (Jvm.Cond.instanceMethod ({ cls := "ListWeave", name := "elementOf", desc := "(I)LListWeave$Element;" } : Jvm.MethodName)) ∈ gw := gw_of (i := 112) (by decide +kernel) (by decide +kernel)
theorem wk_113 : (Jvm.Cond.code ({ cls := "ListWeave", name := "elementOf", desc := "(I)LListWeave$Element;" } : Jvm.MethodName) prog_1_method_25_code (3 : Nat) (Option.some (Jvm.ClassFile.FieldType.object "ListWeave$Element"))) ∈ gw := gw_of (i := 113) (by decide +kernel) (by decide +kernel)
theorem wk_114 : (Jvm.Cond.methodLink "ListWeave" (112 : Nat) ({ cls := "ListWeave", name := "rowOf", desc := "(I)I" } : Jvm.MethodName)) ∈ gw := gw_of (i := 114) (by decide +kernel) (by decide +kernel)
theorem wk_116 : (Jvm.Cond.instanceMethod ({ cls := "ListWeave", name := "rowOf", desc := "(I)I" } : Jvm.MethodName)) ∈ gw := gw_of (i := 116) (by decide +kernel) (by decide +kernel)
theorem wk_117 : (Jvm.Cond.code ({ cls := "ListWeave", name := "rowOf", desc := "(I)I" } : Jvm.MethodName) prog_1_method_24_code (3 : Nat) (Option.some Jvm.ClassFile.FieldType.int)) ∈ gw := gw_of (i := 117) (by decide +kernel) (by decide +kernel)
theorem wk_118 : (Jvm.Cond.methodLink "ListWeave" (46 : Nat) ({ cls := "ListWeave", name := "isFree", desc := "(I)Z" } : Jvm.MethodName)) ∈ gw := gw_of (i := 118) (by decide +kernel) (by decide +kernel)
theorem wk_120 : (Jvm.Cond.instanceMethod ({ cls := "ListWeave", name := "isFree", desc := "(I)Z" } : Jvm.MethodName)) ∈ gw := gw_of (i := 120) (by decide +kernel) (by decide +kernel)
theorem wk_121 : (Jvm.Cond.code ({ cls := "ListWeave", name := "isFree", desc := "(I)Z" } : Jvm.MethodName) prog_1_method_16_code (2 : Nat) (Option.some Jvm.ClassFile.FieldType.boolean)) ∈ gw := gw_of (i := 121) (by decide +kernel) (by decide +kernel)
theorem wk_122 : (Jvm.Cond.constant "ListWeave" (138 : Nat) (800007 : Int32)) ∈ gw := gw_of (i := 122) (by decide +kernel) (by decide +kernel)
theorem wk_125 : (Jvm.Cond.instanceMethod ({ cls := "ListWeave$UsedIds", name := "has", desc := "(I)Z" } : Jvm.MethodName)) ∈ gw := gw_of (i := 125) (by decide +kernel) (by decide +kernel)
theorem wk_126 : (Jvm.Cond.code ({ cls := "ListWeave$UsedIds", name := "has", desc := "(I)Z" } : Jvm.MethodName) prog_3_method_3_code (3 : Nat) (Option.some Jvm.ClassFile.FieldType.boolean)) ∈ gw := gw_of (i := 126) (by decide +kernel) (by decide +kernel)
theorem wk_127 : (Jvm.Cond.methodLink "ListWeave$UsedIds" (19 : Nat) ({ cls := "ListWeave$UsedIds", name := "firstNotBelow", desc := "(I)I" } : Jvm.MethodName)) ∈ gw := gw_of (i := 127) (by decide +kernel) (by decide +kernel)
theorem wk_129 : (Jvm.Cond.instanceMethod ({ cls := "ListWeave$UsedIds", name := "firstNotBelow", desc := "(I)I" } : Jvm.MethodName)) ∈ gw := gw_of (i := 129) (by decide +kernel) (by decide +kernel)
theorem wk_130 : (Jvm.Cond.code ({ cls := "ListWeave$UsedIds", name := "firstNotBelow", desc := "(I)I" } : Jvm.MethodName) prog_3_method_6_code (5 : Nat) (Option.some Jvm.ClassFile.FieldType.int)) ∈ gw := gw_of (i := 130) (by decide +kernel) (by decide +kernel)
theorem wk_131 : (Jvm.Cond.methodLink "ListWeave" (50 : Nat) ({ cls := "ListWeave", name := "isKind", desc := "(I)Z" } : Jvm.MethodName)) ∈ gw := gw_of (i := 131) (by decide +kernel) (by decide +kernel)
theorem wk_132 : (Jvm.Cond.static ({ cls := "ListWeave", name := "isKind", desc := "(I)Z" } : Jvm.MethodName)) ∈ gw := gw_of (i := 132) (by decide +kernel) (by decide +kernel)
theorem wk_133 : (Jvm.Cond.code ({ cls := "ListWeave", name := "isKind", desc := "(I)Z" } : Jvm.MethodName) prog_1_method_18_code (1 : Nat) (Option.some Jvm.ClassFile.FieldType.boolean)) ∈ gw := gw_of (i := 133) (by decide +kernel) (by decide +kernel)
theorem wk_134 : (Jvm.Cond.methodLink "ListWeave" (53 : Nat) ({ cls := "ListWeave", name := "weave", desc := "(ILListWeave$Element;II)LListWeave$Element;" } : Jvm.MethodName)) ∈ gw := gw_of (i := 134) (by decide +kernel) (by decide +kernel)
theorem wk_136 : (Jvm.Cond.instanceMethod ({ cls := "ListWeave", name := "weave", desc := "(ILListWeave$Element;II)LListWeave$Element;" } : Jvm.MethodName)) ∈ gw := gw_of (i := 136) (by decide +kernel) (by decide +kernel)
theorem wk_137 : (Jvm.Cond.code ({ cls := "ListWeave", name := "weave", desc := "(ILListWeave$Element;II)LListWeave$Element;" } : Jvm.MethodName) prog_1_method_22_code (7 : Nat) (Option.some (Jvm.ClassFile.FieldType.object "ListWeave$Element"))) ∈ gw := gw_of (i := 137) (by decide +kernel) (by decide +kernel)
theorem wk_138 : (Jvm.Cond.methodLink "ListWeave" (147 : Nat) ({ cls := "ListWeave", name := "rowForNew", desc := "(ILListWeave$Element;)I" } : Jvm.MethodName)) ∈ gw := gw_of (i := 138) (by decide +kernel) (by decide +kernel)
theorem wk_140 : (Jvm.Cond.instanceMethod ({ cls := "ListWeave", name := "rowForNew", desc := "(ILListWeave$Element;)I" } : Jvm.MethodName)) ∈ gw := gw_of (i := 140) (by decide +kernel) (by decide +kernel)
theorem wk_141 : (Jvm.Cond.code ({ cls := "ListWeave", name := "rowForNew", desc := "(ILListWeave$Element;)I" } : Jvm.MethodName) prog_1_method_23_code (4 : Nat) (Option.some Jvm.ClassFile.FieldType.int)) ∈ gw := gw_of (i := 141) (by decide +kernel) (by decide +kernel)
theorem wk_144 : (Jvm.Cond.instanceMethod ({ cls := "ListWeave$Element", name := "offer", desc := "(III)V" } : Jvm.MethodName)) ∈ gw := gw_of (i := 144) (by decide +kernel) (by decide +kernel)
theorem wk_145 : (Jvm.Cond.code ({ cls := "ListWeave$Element", name := "offer", desc := "(III)V" } : Jvm.MethodName) prog_2_method_3_code (4 : Nat) (Option.none : Option Jvm.ClassFile.FieldType)) ∈ gw := gw_of (i := 145) (by decide +kernel) (by decide +kernel)
theorem wk_148 : (Jvm.Cond.instanceMethod ({ cls := "ListWeave$UsedIds", name := "note", desc := "(I)V" } : Jvm.MethodName)) ∈ gw := gw_of (i := 148) (by decide +kernel) (by decide +kernel)
theorem wk_149 : (Jvm.Cond.code ({ cls := "ListWeave$UsedIds", name := "note", desc := "(I)V" } : Jvm.MethodName) prog_3_method_4_code (3 : Nat) (Option.none : Option Jvm.ClassFile.FieldType)) ∈ gw := gw_of (i := 149) (by decide +kernel) (by decide +kernel)
theorem wk_150 : (Jvm.Cond.methodLink "ListWeave$UsedIds" (23 : Nat) ({ cls := "java/lang/System", name := "arraycopy", desc := "(Ljava/lang/Object;ILjava/lang/Object;II)V" } : Jvm.MethodName)) ∈ gw := gw_of (i := 150) (by decide +kernel) (by decide +kernel)
theorem wk_151 : (Jvm.Cond.static ({ cls := "java/lang/System", name := "arraycopy", desc := "(Ljava/lang/Object;ILjava/lang/Object;II)V" } : Jvm.MethodName)) ∈ gw := gw_of (i := 151) (by decide +kernel) (by decide +kernel)
theorem wk_152 : (Jvm.Cond.native ({ cls := "java/lang/System", name := "arraycopy", desc := "(Ljava/lang/Object;ILjava/lang/Object;II)V" } : Jvm.MethodName)) ∈ gw := gw_of (i := 152) (by decide +kernel) (by decide +kernel)
theorem wk_153 : (Jvm.Cond.methodLink "ListWeaveLaw" (46 : Nat) ({ cls := "ListWeave", name := "run", desc := "(IIIJ)Z" } : Jvm.MethodName)) ∈ gw := gw_of (i := 153) (by decide +kernel) (by decide +kernel)
theorem wk_154 : (Jvm.Cond.instanceMethod ({ cls := "ListWeave", name := "run", desc := "(IIIJ)Z" } : Jvm.MethodName)) ∈ gw := gw_of (i := 154) (by decide +kernel) (by decide +kernel)
theorem wk_155 : (Jvm.Cond.selects "ListWeave" ({ cls := "ListWeave", name := "run", desc := "(IIIJ)Z" } : Jvm.MethodName) ({ cls := "ListWeave", name := "run", desc := "(IIIJ)Z" } : Jvm.MethodName)) ∈ gw := gw_of (i := 155) (by decide +kernel) (by decide +kernel)
theorem wk_156 : (Jvm.Cond.code ({ cls := "ListWeave", name := "run", desc := "(IIIJ)Z" } : Jvm.MethodName) prog_1_method_4_code (8 : Nat) (Option.some Jvm.ClassFile.FieldType.boolean)) ∈ gw := gw_of (i := 156) (by decide +kernel) (by decide +kernel)
theorem wk_157 : (Jvm.Cond.methodLink "ListWeave" (57 : Nat) ({ cls := "ListWeave", name := "areFree", desc := "(II)Z" } : Jvm.MethodName)) ∈ gw := gw_of (i := 157) (by decide +kernel) (by decide +kernel)
theorem wk_159 : (Jvm.Cond.instanceMethod ({ cls := "ListWeave", name := "areFree", desc := "(II)Z" } : Jvm.MethodName)) ∈ gw := gw_of (i := 159) (by decide +kernel) (by decide +kernel)
theorem wk_160 : (Jvm.Cond.code ({ cls := "ListWeave", name := "areFree", desc := "(II)Z" } : Jvm.MethodName) prog_1_method_17_code (4 : Nat) (Option.some Jvm.ClassFile.FieldType.boolean)) ∈ gw := gw_of (i := 160) (by decide +kernel) (by decide +kernel)
theorem wk_161 : (Jvm.Cond.methodLink "ListWeave" (61 : Nat) ({ cls := "ListWeave", name := "byteOf", desc := "(JI)I" } : Jvm.MethodName)) ∈ gw := gw_of (i := 161) (by decide +kernel) (by decide +kernel)
theorem wk_162 : (Jvm.Cond.static ({ cls := "ListWeave", name := "byteOf", desc := "(JI)I" } : Jvm.MethodName)) ∈ gw := gw_of (i := 162) (by decide +kernel) (by decide +kernel)
theorem wk_163 : (Jvm.Cond.code ({ cls := "ListWeave", name := "byteOf", desc := "(JI)I" } : Jvm.MethodName) prog_1_method_21_code (3 : Nat) (Option.some Jvm.ClassFile.FieldType.int)) ∈ gw := gw_of (i := 163) (by decide +kernel) (by decide +kernel)
theorem wk_164 : (Jvm.Cond.constantLong "ListWeave" (145 : Nat) (255 : Int64)) ∈ gw := gw_of (i := 164) (by decide +kernel) (by decide +kernel)
theorem wk_165 : (Jvm.Cond.methodLink "ListWeaveLaw" (51 : Nat) ({ cls := "ListWeave", name := "set", desc := "(IIII)Z" } : Jvm.MethodName)) ∈ gw := gw_of (i := 165) (by decide +kernel) (by decide +kernel)
theorem wk_166 : (Jvm.Cond.instanceMethod ({ cls := "ListWeave", name := "set", desc := "(IIII)Z" } : Jvm.MethodName)) ∈ gw := gw_of (i := 166) (by decide +kernel) (by decide +kernel)
theorem wk_167 : (Jvm.Cond.selects "ListWeave" ({ cls := "ListWeave", name := "set", desc := "(IIII)Z" } : Jvm.MethodName) ({ cls := "ListWeave", name := "set", desc := "(IIII)Z" } : Jvm.MethodName)) ∈ gw := gw_of (i := 167) (by decide +kernel) (by decide +kernel)
theorem wk_168 : (Jvm.Cond.code ({ cls := "ListWeave", name := "set", desc := "(IIII)Z" } : Jvm.MethodName) prog_1_method_5_code (6 : Nat) (Option.some Jvm.ClassFile.FieldType.boolean)) ∈ gw := gw_of (i := 168) (by decide +kernel) (by decide +kernel)
theorem wk_169 : (Jvm.Cond.methodLink "ListWeave" (68 : Nat) ({ cls := "ListWeave", name := "mayChange", desc := "(II)Z" } : Jvm.MethodName)) ∈ gw := gw_of (i := 169) (by decide +kernel) (by decide +kernel)
theorem wk_171 : (Jvm.Cond.instanceMethod ({ cls := "ListWeave", name := "mayChange", desc := "(II)Z" } : Jvm.MethodName)) ∈ gw := gw_of (i := 171) (by decide +kernel) (by decide +kernel)
theorem wk_172 : (Jvm.Cond.code ({ cls := "ListWeave", name := "mayChange", desc := "(II)Z" } : Jvm.MethodName) prog_1_method_19_code (3 : Nat) (Option.some Jvm.ClassFile.FieldType.boolean)) ∈ gw := gw_of (i := 172) (by decide +kernel) (by decide +kernel)
theorem wk_173 : (Jvm.Cond.methodLink "ListWeave" (71 : Nat) ({ cls := "ListWeave", name := "countChange", desc := "(I)V" } : Jvm.MethodName)) ∈ gw := gw_of (i := 173) (by decide +kernel) (by decide +kernel)
theorem wk_175 : (Jvm.Cond.instanceMethod ({ cls := "ListWeave", name := "countChange", desc := "(I)V" } : Jvm.MethodName)) ∈ gw := gw_of (i := 175) (by decide +kernel) (by decide +kernel)
theorem wk_176 : (Jvm.Cond.code ({ cls := "ListWeave", name := "countChange", desc := "(I)V" } : Jvm.MethodName) prog_1_method_20_code (2 : Nat) (Option.none : Option Jvm.ClassFile.FieldType)) ∈ gw := gw_of (i := 176) (by decide +kernel) (by decide +kernel)
theorem wk_177 : (Jvm.Cond.methodLink "ListWeaveLaw" (55 : Nat) ({ cls := "ListWeave", name := "remove", desc := "(II)Z" } : Jvm.MethodName)) ∈ gw := gw_of (i := 177) (by decide +kernel) (by decide +kernel)
theorem wk_178 : (Jvm.Cond.instanceMethod ({ cls := "ListWeave", name := "remove", desc := "(II)Z" } : Jvm.MethodName)) ∈ gw := gw_of (i := 178) (by decide +kernel) (by decide +kernel)
theorem wk_179 : (Jvm.Cond.selects "ListWeave" ({ cls := "ListWeave", name := "remove", desc := "(II)Z" } : Jvm.MethodName) ({ cls := "ListWeave", name := "remove", desc := "(II)Z" } : Jvm.MethodName)) ∈ gw := gw_of (i := 179) (by decide +kernel) (by decide +kernel)
theorem wk_180 : (Jvm.Cond.code ({ cls := "ListWeave", name := "remove", desc := "(II)Z" } : Jvm.MethodName) prog_1_method_6_code (4 : Nat) (Option.some Jvm.ClassFile.FieldType.boolean)) ∈ gw := gw_of (i := 180) (by decide +kernel) (by decide +kernel)
theorem wk_181 : (Jvm.Cond.methodLink "ListWeaveLaw" (59 : Nat) ({ cls := "ListWeave", name := "size", desc := "()I" } : Jvm.MethodName)) ∈ gw := gw_of (i := 181) (by decide +kernel) (by decide +kernel)
theorem wk_182 : (Jvm.Cond.instanceMethod ({ cls := "ListWeave", name := "size", desc := "()I" } : Jvm.MethodName)) ∈ gw := gw_of (i := 182) (by decide +kernel) (by decide +kernel)
theorem wk_183 : (Jvm.Cond.selects "ListWeave" ({ cls := "ListWeave", name := "size", desc := "()I" } : Jvm.MethodName) ({ cls := "ListWeave", name := "size", desc := "()I" } : Jvm.MethodName)) ∈ gw := gw_of (i := 183) (by decide +kernel) (by decide +kernel)
theorem wk_184 : (Jvm.Cond.code ({ cls := "ListWeave", name := "size", desc := "()I" } : Jvm.MethodName) prog_1_method_7_code (1 : Nat) (Option.some Jvm.ClassFile.FieldType.int)) ∈ gw := gw_of (i := 184) (by decide +kernel) (by decide +kernel)
theorem wk_185 : (Jvm.Cond.methodLink "ListWeave" (84 : Nat) ({ cls := "ListWeave", name := "visibleUpTo", desc := "(I)I" } : Jvm.MethodName)) ∈ gw := gw_of (i := 185) (by decide +kernel) (by decide +kernel)
theorem wk_187 : (Jvm.Cond.instanceMethod ({ cls := "ListWeave", name := "visibleUpTo", desc := "(I)I" } : Jvm.MethodName)) ∈ gw := gw_of (i := 187) (by decide +kernel) (by decide +kernel)
theorem wk_188 : (Jvm.Cond.code ({ cls := "ListWeave", name := "visibleUpTo", desc := "(I)I" } : Jvm.MethodName) prog_1_method_28_code (4 : Nat) (Option.some Jvm.ClassFile.FieldType.int)) ∈ gw := gw_of (i := 188) (by decide +kernel) (by decide +kernel)
theorem wk_191 : (Jvm.Cond.instanceMethod ({ cls := "ListWeave$Element", name := "isVisible", desc := "()Z" } : Jvm.MethodName)) ∈ gw := gw_of (i := 191) (by decide +kernel) (by decide +kernel)
theorem wk_192 : (Jvm.Cond.code ({ cls := "ListWeave$Element", name := "isVisible", desc := "()Z" } : Jvm.MethodName) prog_2_method_2_code (1 : Nat) (Option.some Jvm.ClassFile.FieldType.boolean)) ∈ gw := gw_of (i := 192) (by decide +kernel) (by decide +kernel)
theorem wk_193 : (Jvm.Cond.methodLink "ListWeaveLaw" (73 : Nat) ({ cls := "ListWeave", name := "place", desc := "(I)I" } : Jvm.MethodName)) ∈ gw := gw_of (i := 193) (by decide +kernel) (by decide +kernel)
theorem wk_194 : (Jvm.Cond.instanceMethod ({ cls := "ListWeave", name := "place", desc := "(I)I" } : Jvm.MethodName)) ∈ gw := gw_of (i := 194) (by decide +kernel) (by decide +kernel)
theorem wk_195 : (Jvm.Cond.selects "ListWeave" ({ cls := "ListWeave", name := "place", desc := "(I)I" } : Jvm.MethodName) ({ cls := "ListWeave", name := "place", desc := "(I)I" } : Jvm.MethodName)) ∈ gw := gw_of (i := 195) (by decide +kernel) (by decide +kernel)
theorem wk_196 : (Jvm.Cond.code ({ cls := "ListWeave", name := "place", desc := "(I)I" } : Jvm.MethodName) prog_1_method_9_code (3 : Nat) (Option.some Jvm.ClassFile.FieldType.int)) ∈ gw := gw_of (i := 196) (by decide +kernel) (by decide +kernel)
theorem wk_197 : (Jvm.Cond.methodLink "ListWeaveLaw" (90 : Nat) ({ cls := "ListWeave", name := "sum", desc := "(II)J" } : Jvm.MethodName)) ∈ gw := gw_of (i := 197) (by decide +kernel) (by decide +kernel)
theorem wk_198 : (Jvm.Cond.instanceMethod ({ cls := "ListWeave", name := "sum", desc := "(II)J" } : Jvm.MethodName)) ∈ gw := gw_of (i := 198) (by decide +kernel) (by decide +kernel)
theorem wk_199 : (Jvm.Cond.selects "ListWeave" ({ cls := "ListWeave", name := "sum", desc := "(II)J" } : Jvm.MethodName) ({ cls := "ListWeave", name := "sum", desc := "(II)J" } : Jvm.MethodName)) ∈ gw := gw_of (i := 199) (by decide +kernel) (by decide +kernel)
theorem wk_200 : (Jvm.Cond.code ({ cls := "ListWeave", name := "sum", desc := "(II)J" } : Jvm.MethodName) prog_1_method_14_code (8 : Nat) (Option.some Jvm.ClassFile.FieldType.long)) ∈ gw := gw_of (i := 200) (by decide +kernel) (by decide +kernel)
theorem wk_201 : (Jvm.Cond.methodLink "ListWeaveLaw" (95 : Nat) ({ cls := "ListWeave", name := "look", desc := "(I)I" } : Jvm.MethodName)) ∈ gw := gw_of (i := 201) (by decide +kernel) (by decide +kernel)
theorem wk_202 : (Jvm.Cond.instanceMethod ({ cls := "ListWeave", name := "look", desc := "(I)I" } : Jvm.MethodName)) ∈ gw := gw_of (i := 202) (by decide +kernel) (by decide +kernel)
theorem wk_203 : (Jvm.Cond.selects "ListWeave" ({ cls := "ListWeave", name := "look", desc := "(I)I" } : Jvm.MethodName) ({ cls := "ListWeave", name := "look", desc := "(I)I" } : Jvm.MethodName)) ∈ gw := gw_of (i := 203) (by decide +kernel) (by decide +kernel)
theorem wk_204 : (Jvm.Cond.code ({ cls := "ListWeave", name := "look", desc := "(I)I" } : Jvm.MethodName) prog_1_method_15_code (2 : Nat) (Option.some Jvm.ClassFile.FieldType.int)) ∈ gw := gw_of (i := 204) (by decide +kernel) (by decide +kernel)
theorem wk_207 : (Jvm.Cond.instanceMethod ({ cls := "ListWeave$UsedIds", name := "greatest", desc := "()I" } : Jvm.MethodName)) ∈ gw := gw_of (i := 207) (by decide +kernel) (by decide +kernel)
theorem wk_208 : (Jvm.Cond.code ({ cls := "ListWeave$UsedIds", name := "greatest", desc := "()I" } : Jvm.MethodName) prog_3_method_5_code (1 : Nat) (Option.some Jvm.ClassFile.FieldType.int)) ∈ gw := gw_of (i := 208) (by decide +kernel) (by decide +kernel)
theorem wk_209 : (Jvm.Cond.methodLink "ListWeave" (135 : Nat) ({ cls := "ListWeave", name := "longestWay", desc := "()I" } : Jvm.MethodName)) ∈ gw := gw_of (i := 209) (by decide +kernel) (by decide +kernel)
theorem wk_211 : (Jvm.Cond.instanceMethod ({ cls := "ListWeave", name := "longestWay", desc := "()I" } : Jvm.MethodName)) ∈ gw := gw_of (i := 211) (by decide +kernel) (by decide +kernel)
theorem wk_212 : (Jvm.Cond.code ({ cls := "ListWeave", name := "longestWay", desc := "()I" } : Jvm.MethodName) prog_1_method_29_code (3 : Nat) (Option.some Jvm.ClassFile.FieldType.int)) ∈ gw := gw_of (i := 212) (by decide +kernel) (by decide +kernel)
theorem wk_213 : (Jvm.Cond.methodLink "ListWeave" (154 : Nat) ({ cls := "java/lang/Math", name := "max", desc := "(II)I" } : Jvm.MethodName)) ∈ gw := gw_of (i := 213) (by decide +kernel) (by decide +kernel)
theorem wk_214 : (Jvm.Cond.static ({ cls := "java/lang/Math", name := "max", desc := "(II)I" } : Jvm.MethodName)) ∈ gw := gw_of (i := 214) (by decide +kernel) (by decide +kernel)
theorem wk_215 : (Jvm.Cond.code ({ cls := "java/lang/Math", name := "max", desc := "(II)I" } : Jvm.MethodName) prog_9_method_65_code (2 : Nat) (Option.some Jvm.ClassFile.FieldType.int)) ∈ gw := gw_of (i := 215) (by decide +kernel) (by decide +kernel)
theorem wk_216 : (Jvm.Cond.methodLink "ListWeaveLaw" (64 : Nat) ({ cls := "ListWeaveLaw", name := "at", desc := "(LListWeave;II[J)I" } : Jvm.MethodName)) ∈ gw := gw_of (i := 216) (by decide +kernel) (by decide +kernel)
theorem wk_217 : (Jvm.Cond.static ({ cls := "ListWeaveLaw", name := "at", desc := "(LListWeave;II[J)I" } : Jvm.MethodName)) ∈ gw := gw_of (i := 217) (by decide +kernel) (by decide +kernel)
theorem wk_218 : (Jvm.Cond.codeWith ({ cls := "ListWeaveLaw", name := "at", desc := "(LListWeave;II[J)I" } : Jvm.MethodName) method_3_code (5 : Nat) (Option.some Jvm.ClassFile.FieldType.int) [((0 : Nat), (10 : Nat), (13 : Nat), (13 : Nat))]) ∈ gw := gw_of (i := 218) (by decide +kernel) (by decide +kernel)
theorem wk_219 : (Jvm.Cond.classLink "ListWeaveLaw" (13 : Nat) "java/lang/IndexOutOfBoundsException") ∈ gw := gw_of (i := 219) (by decide +kernel) (by decide +kernel)
theorem wk_220 : (Jvm.Cond.methodLink "ListWeaveLaw" (7 : Nat) ({ cls := "ListWeave", name := "at", desc := "(II)I" } : Jvm.MethodName)) ∈ gw := gw_of (i := 220) (by decide +kernel) (by decide +kernel)
theorem wk_221 : (Jvm.Cond.instanceMethod ({ cls := "ListWeave", name := "at", desc := "(II)I" } : Jvm.MethodName)) ∈ gw := gw_of (i := 221) (by decide +kernel) (by decide +kernel)
theorem wk_222 : (Jvm.Cond.selects "ListWeave" ({ cls := "ListWeave", name := "at", desc := "(II)I" } : Jvm.MethodName) ({ cls := "ListWeave", name := "at", desc := "(II)I" } : Jvm.MethodName)) ∈ gw := gw_of (i := 222) (by decide +kernel) (by decide +kernel)
theorem wk_223 : (Jvm.Cond.code ({ cls := "ListWeave", name := "at", desc := "(II)I" } : Jvm.MethodName) prog_1_method_8_code (4 : Nat) (Option.some Jvm.ClassFile.FieldType.int)) ∈ gw := gw_of (i := 223) (by decide +kernel) (by decide +kernel)
theorem wk_224 : (Jvm.Cond.methodLink "ListWeave" (88 : Nat) ({ cls := "ListWeave", name := "elementAt", desc := "(I)LListWeave$Element;" } : Jvm.MethodName)) ∈ gw := gw_of (i := 224) (by decide +kernel) (by decide +kernel)
theorem wk_226 : (Jvm.Cond.instanceMethod ({ cls := "ListWeave", name := "elementAt", desc := "(I)LListWeave$Element;" } : Jvm.MethodName)) ∈ gw := gw_of (i := 226) (by decide +kernel) (by decide +kernel)
theorem wk_227 : (Jvm.Cond.code ({ cls := "ListWeave", name := "elementAt", desc := "(I)LListWeave$Element;" } : Jvm.MethodName) prog_1_method_27_code (4 : Nat) (Option.some (Jvm.ClassFile.FieldType.object "ListWeave$Element"))) ∈ gw := gw_of (i := 227) (by decide +kernel) (by decide +kernel)
theorem wk_228 : (Jvm.Cond.classLink "ListWeave" (91 : Nat) "java/lang/IndexOutOfBoundsException") ∈ gw := gw_of (i := 228) (by decide +kernel) (by decide +kernel)
theorem wk_229 : (Jvm.Cond.instantiable "java/lang/IndexOutOfBoundsException" (6 : Nat)) ∈ gw := gw_of (i := 229) (by decide +kernel) (by decide +kernel)
theorem wk_237 : (Jvm.Cond.selects "java/lang/IndexOutOfBoundsException" ({ cls := "java/lang/Throwable", name := "fillInStackTrace", desc := "(I)Ljava/lang/Throwable;" } : Jvm.MethodName) ({ cls := "java/lang/Throwable", name := "fillInStackTrace", desc := "(I)Ljava/lang/Throwable;" } : Jvm.MethodName)) ∈ gw := gw_of (i := 237) (by decide +kernel) (by decide +kernel)
theorem wk_238 : (Jvm.Cond.selects "java/lang/IndexOutOfBoundsException" ({ cls := "java/lang/Throwable", name := "fillInStackTrace", desc := "()Ljava/lang/Throwable;" } : Jvm.MethodName) ({ cls := "java/lang/Throwable", name := "fillInStackTrace", desc := "()Ljava/lang/Throwable;" } : Jvm.MethodName)) ∈ gw := gw_of (i := 238) (by decide +kernel) (by decide +kernel)
theorem wk_239 : (Jvm.Cond.lays "java/lang/IndexOutOfBoundsException" "java/lang/Throwable" "cause" "Ljava/lang/Throwable;") ∈ gw := gw_of (i := 239) (by decide +kernel) (by decide +kernel)
theorem wk_240 : (Jvm.Cond.lays "java/lang/Throwable" "java/lang/Throwable" "cause" "Ljava/lang/Throwable;") ∈ gw := gw_of (i := 240) (by decide +kernel) (by decide +kernel)
theorem wk_241 : (Jvm.Cond.lays "java/lang/IndexOutOfBoundsException" "java/lang/Throwable" "stackTrace" "[Ljava/lang/StackTraceElement;") ∈ gw := gw_of (i := 241) (by decide +kernel) (by decide +kernel)
theorem wk_242 : (Jvm.Cond.lays "java/lang/Throwable" "java/lang/Throwable" "stackTrace" "[Ljava/lang/StackTraceElement;") ∈ gw := gw_of (i := 242) (by decide +kernel) (by decide +kernel)
theorem wk_243 : (Jvm.Cond.lays "java/lang/IndexOutOfBoundsException" "java/lang/Throwable" "suppressedExceptions" "Ljava/util/List;") ∈ gw := gw_of (i := 243) (by decide +kernel) (by decide +kernel)
theorem wk_244 : (Jvm.Cond.lays "java/lang/Throwable" "java/lang/Throwable" "suppressedExceptions" "Ljava/util/List;") ∈ gw := gw_of (i := 244) (by decide +kernel) (by decide +kernel)
theorem wk_245 : (Jvm.Cond.lays "java/lang/IndexOutOfBoundsException" "java/lang/Throwable" "detailMessage" "Ljava/lang/String;") ∈ gw := gw_of (i := 245) (by decide +kernel) (by decide +kernel)
theorem wk_246 : (Jvm.Cond.lays "java/lang/Throwable" "java/lang/Throwable" "detailMessage" "Ljava/lang/String;") ∈ gw := gw_of (i := 246) (by decide +kernel) (by decide +kernel)
theorem wk_247 : (Jvm.Cond.lays "java/lang/IndexOutOfBoundsException" "java/lang/Throwable" "backtrace" "Ljava/lang/Object;") ∈ gw := gw_of (i := 247) (by decide +kernel) (by decide +kernel)
theorem wk_248 : (Jvm.Cond.lays "java/lang/Throwable" "java/lang/Throwable" "backtrace" "Ljava/lang/Object;") ∈ gw := gw_of (i := 248) (by decide +kernel) (by decide +kernel)
theorem wk_249 : (Jvm.Cond.fieldLink "java/lang/Throwable" (198 : Nat) "java/lang/Throwable" "backtrace" "Ljava/lang/Object;") ∈ gw := gw_of (i := 249) (by decide +kernel) (by decide +kernel)
theorem wk_251 : (Jvm.Cond.instanceMethod ({ cls := "java/lang/Throwable", name := "<init>", desc := "()V" } : Jvm.MethodName)) ∈ gw := gw_of (i := 251) (by decide +kernel) (by decide +kernel)
theorem wk_252 : (Jvm.Cond.code ({ cls := "java/lang/Throwable", name := "<init>", desc := "()V" } : Jvm.MethodName) prog_13_method_1_code (1 : Nat) (Option.none : Option Jvm.ClassFile.FieldType)) ∈ gw := gw_of (i := 252) (by decide +kernel) (by decide +kernel)
theorem wk_253 : (Jvm.Cond.methodLink "java/lang/Throwable" (1 : Nat) ({ cls := "java/lang/Object", name := "<init>", desc := "()V" } : Jvm.MethodName)) ∈ gw := gw_of (i := 253) (by decide +kernel) (by decide +kernel)
theorem wk_254 : (Jvm.Cond.fieldLink "java/lang/Throwable" (13 : Nat) "java/lang/Throwable" "UNASSIGNED_STACK" "[Ljava/lang/StackTraceElement;") ∈ gw := gw_of (i := 254) (by decide +kernel) (by decide +kernel)
theorem wk_256 : (Jvm.Cond.fieldLink "java/lang/Throwable" (20 : Nat) "java/lang/Throwable" "SUPPRESSED_SENTINEL" "Ljava/util/List;") ∈ gw := gw_of (i := 256) (by decide +kernel) (by decide +kernel)
theorem wk_258 : (Jvm.Cond.methodLink "java/lang/Throwable" (27 : Nat) ({ cls := "java/lang/Throwable", name := "fillInStackTrace", desc := "()Ljava/lang/Throwable;" } : Jvm.MethodName)) ∈ gw := gw_of (i := 258) (by decide +kernel) (by decide +kernel)
theorem wk_259 : (Jvm.Cond.instanceMethod ({ cls := "java/lang/Throwable", name := "fillInStackTrace", desc := "()Ljava/lang/Throwable;" } : Jvm.MethodName)) ∈ gw := gw_of (i := 259) (by decide +kernel) (by decide +kernel)
theorem wk_261 : (Jvm.Cond.selects "java/lang/IllegalArgumentException" ({ cls := "java/lang/Throwable", name := "fillInStackTrace", desc := "()Ljava/lang/Throwable;" } : Jvm.MethodName) ({ cls := "java/lang/Throwable", name := "fillInStackTrace", desc := "()Ljava/lang/Throwable;" } : Jvm.MethodName)) ∈ gw := gw_of (i := 261) (by decide +kernel) (by decide +kernel)
theorem wk_263 : (Jvm.Cond.methodLink "java/lang/Throwable" (202 : Nat) ({ cls := "java/lang/Throwable", name := "fillInStackTrace", desc := "(I)Ljava/lang/Throwable;" } : Jvm.MethodName)) ∈ gw := gw_of (i := 263) (by decide +kernel) (by decide +kernel)
theorem wk_265 : (Jvm.Cond.instanceMethod ({ cls := "java/lang/Throwable", name := "fillInStackTrace", desc := "(I)Ljava/lang/Throwable;" } : Jvm.MethodName)) ∈ gw := gw_of (i := 265) (by decide +kernel) (by decide +kernel)
theorem wk_266 : (Jvm.Cond.instantiable "java/lang/Throwable" (6 : Nat)) ∈ gw := gw_of (i := 266) (by decide +kernel) (by decide +kernel)
theorem wk_267 : (Jvm.Cond.native ({ cls := "java/lang/Throwable", name := "fillInStackTrace", desc := "(I)Ljava/lang/Throwable;" } : Jvm.MethodName)) ∈ gw := gw_of (i := 267) (by decide +kernel) (by decide +kernel)
theorem wk_269 : (Jvm.Cond.methodLink "ListWeave" (95 : Nat) ({ cls := "java/lang/IndexOutOfBoundsException", name := "<init>", desc := "(Ljava/lang/String;)V" } : Jvm.MethodName)) ∈ gw := gw_of (i := 269) (by decide +kernel) (by decide +kernel)
theorem wk_270 : (Jvm.Cond.instanceMethod ({ cls := "java/lang/IndexOutOfBoundsException", name := "<init>", desc := "(Ljava/lang/String;)V" } : Jvm.MethodName)) ∈ gw := gw_of (i := 270) (by decide +kernel) (by decide +kernel)
theorem wk_271 : (Jvm.Cond.code ({ cls := "java/lang/IndexOutOfBoundsException", name := "<init>", desc := "(Ljava/lang/String;)V" } : Jvm.MethodName) prog_8_method_2_code (2 : Nat) (Option.none : Option Jvm.ClassFile.FieldType)) ∈ gw := gw_of (i := 271) (by decide +kernel) (by decide +kernel)
theorem wk_272 : (Jvm.Cond.methodLink "java/lang/IndexOutOfBoundsException" (7 : Nat) ({ cls := "java/lang/RuntimeException", name := "<init>", desc := "(Ljava/lang/String;)V" } : Jvm.MethodName)) ∈ gw := gw_of (i := 272) (by decide +kernel) (by decide +kernel)
theorem wk_273 : (Jvm.Cond.instanceMethod ({ cls := "java/lang/RuntimeException", name := "<init>", desc := "(Ljava/lang/String;)V" } : Jvm.MethodName)) ∈ gw := gw_of (i := 273) (by decide +kernel) (by decide +kernel)
theorem wk_274 : (Jvm.Cond.code ({ cls := "java/lang/RuntimeException", name := "<init>", desc := "(Ljava/lang/String;)V" } : Jvm.MethodName) prog_10_method_2_code (2 : Nat) (Option.none : Option Jvm.ClassFile.FieldType)) ∈ gw := gw_of (i := 274) (by decide +kernel) (by decide +kernel)
theorem wk_275 : (Jvm.Cond.methodLink "java/lang/RuntimeException" (7 : Nat) ({ cls := "java/lang/Exception", name := "<init>", desc := "(Ljava/lang/String;)V" } : Jvm.MethodName)) ∈ gw := gw_of (i := 275) (by decide +kernel) (by decide +kernel)
theorem wk_276 : (Jvm.Cond.instanceMethod ({ cls := "java/lang/Exception", name := "<init>", desc := "(Ljava/lang/String;)V" } : Jvm.MethodName)) ∈ gw := gw_of (i := 276) (by decide +kernel) (by decide +kernel)
theorem wk_277 : (Jvm.Cond.code ({ cls := "java/lang/Exception", name := "<init>", desc := "(Ljava/lang/String;)V" } : Jvm.MethodName) prog_6_method_2_code (2 : Nat) (Option.none : Option Jvm.ClassFile.FieldType)) ∈ gw := gw_of (i := 277) (by decide +kernel) (by decide +kernel)
theorem wk_278 : (Jvm.Cond.methodLink "java/lang/Exception" (7 : Nat) ({ cls := "java/lang/Throwable", name := "<init>", desc := "(Ljava/lang/String;)V" } : Jvm.MethodName)) ∈ gw := gw_of (i := 278) (by decide +kernel) (by decide +kernel)
theorem wk_279 : (Jvm.Cond.instanceMethod ({ cls := "java/lang/Throwable", name := "<init>", desc := "(Ljava/lang/String;)V" } : Jvm.MethodName)) ∈ gw := gw_of (i := 279) (by decide +kernel) (by decide +kernel)
theorem wk_280 : (Jvm.Cond.code ({ cls := "java/lang/Throwable", name := "<init>", desc := "(Ljava/lang/String;)V" } : Jvm.MethodName) prog_13_method_2_code (2 : Nat) (Option.none : Option Jvm.ClassFile.FieldType)) ∈ gw := gw_of (i := 280) (by decide +kernel) (by decide +kernel)
theorem wk_281 : (Jvm.Cond.fieldLink "java/lang/Throwable" (198 : Nat) "java/lang/Throwable" "backtrace" "Ljava/lang/Object;") ∈ gw := gw_of (i := 281) (by decide +kernel) (by decide +kernel)
theorem wk_282 : (Jvm.Cond.fieldLink "java/lang/Throwable" (31 : Nat) "java/lang/Throwable" "detailMessage" "Ljava/lang/String;") ∈ gw := gw_of (i := 282) (by decide +kernel) (by decide +kernel)
theorem wk_283 : (Jvm.Cond.fieldLink "java/lang/Throwable" (7 : Nat) "java/lang/Throwable" "cause" "Ljava/lang/Throwable;") ∈ gw := gw_of (i := 283) (by decide +kernel) (by decide +kernel)
theorem wk_284 : (Jvm.Cond.fieldLink "java/lang/Throwable" (17 : Nat) "java/lang/Throwable" "stackTrace" "[Ljava/lang/StackTraceElement;") ∈ gw := gw_of (i := 284) (by decide +kernel) (by decide +kernel)
theorem wk_285 : (Jvm.Cond.fieldLink "java/lang/Throwable" (24 : Nat) "java/lang/Throwable" "suppressedExceptions" "Ljava/util/List;") ∈ gw := gw_of (i := 285) (by decide +kernel) (by decide +kernel)
theorem wk_290 : (Jvm.Cond.lays "java/lang/IndexOutOfBoundsException" "java/lang/Throwable" "depth" "I") ∈ gw := gw_of (i := 290) (by decide +kernel) (by decide +kernel)
theorem wk_294 : (Jvm.Cond.arrayClass Jvm.ClassFile.FieldType.byte) ∈ gw := gw_of (i := 294) (by decide +kernel) (by decide +kernel)
theorem wk_296 : (Jvm.Cond.methodLink "ListWeaveLaw" (77 : Nat) ({ cls := "ListWeaveLaw", name := "ahead", desc := "(LListWeave;I[J)I" } : Jvm.MethodName)) ∈ gw := gw_of (i := 296) (by decide +kernel) (by decide +kernel)
theorem wk_297 : (Jvm.Cond.static ({ cls := "ListWeaveLaw", name := "ahead", desc := "(LListWeave;I[J)I" } : Jvm.MethodName)) ∈ gw := gw_of (i := 297) (by decide +kernel) (by decide +kernel)
theorem wk_298 : (Jvm.Cond.codeWith ({ cls := "ListWeaveLaw", name := "ahead", desc := "(LListWeave;I[J)I" } : Jvm.MethodName) method_4_code (4 : Nat) (Option.some Jvm.ClassFile.FieldType.int) [((0 : Nat), (9 : Nat), (12 : Nat), (19 : Nat))]) ∈ gw := gw_of (i := 298) (by decide +kernel) (by decide +kernel)
theorem wk_299 : (Jvm.Cond.classLink "ListWeaveLaw" (19 : Nat) "java/lang/IllegalArgumentException") ∈ gw := gw_of (i := 299) (by decide +kernel) (by decide +kernel)
theorem wk_300 : (Jvm.Cond.methodLink "ListWeaveLaw" (15 : Nat) ({ cls := "ListWeave", name := "ahead", desc := "(I)I" } : Jvm.MethodName)) ∈ gw := gw_of (i := 300) (by decide +kernel) (by decide +kernel)
theorem wk_301 : (Jvm.Cond.instanceMethod ({ cls := "ListWeave", name := "ahead", desc := "(I)I" } : Jvm.MethodName)) ∈ gw := gw_of (i := 301) (by decide +kernel) (by decide +kernel)
theorem wk_302 : (Jvm.Cond.selects "ListWeave" ({ cls := "ListWeave", name := "ahead", desc := "(I)I" } : Jvm.MethodName) ({ cls := "ListWeave", name := "ahead", desc := "(I)I" } : Jvm.MethodName)) ∈ gw := gw_of (i := 302) (by decide +kernel) (by decide +kernel)
theorem wk_303 : (Jvm.Cond.code ({ cls := "ListWeave", name := "ahead", desc := "(I)I" } : Jvm.MethodName) prog_1_method_10_code (3 : Nat) (Option.some Jvm.ClassFile.FieldType.int)) ∈ gw := gw_of (i := 303) (by decide +kernel) (by decide +kernel)
theorem wk_304 : (Jvm.Cond.classLink "ListWeave" (119 : Nat) "java/lang/IllegalArgumentException") ∈ gw := gw_of (i := 304) (by decide +kernel) (by decide +kernel)
theorem wk_305 : (Jvm.Cond.instantiable "java/lang/IllegalArgumentException" (6 : Nat)) ∈ gw := gw_of (i := 305) (by decide +kernel) (by decide +kernel)
theorem wk_307 : (Jvm.Cond.selects "java/lang/IllegalArgumentException" ({ cls := "java/lang/Throwable", name := "fillInStackTrace", desc := "(I)Ljava/lang/Throwable;" } : Jvm.MethodName) ({ cls := "java/lang/Throwable", name := "fillInStackTrace", desc := "(I)Ljava/lang/Throwable;" } : Jvm.MethodName)) ∈ gw := gw_of (i := 307) (by decide +kernel) (by decide +kernel)
theorem wk_308 : (Jvm.Cond.lays "java/lang/IllegalArgumentException" "java/lang/Throwable" "cause" "Ljava/lang/Throwable;") ∈ gw := gw_of (i := 308) (by decide +kernel) (by decide +kernel)
theorem wk_309 : (Jvm.Cond.lays "java/lang/IllegalArgumentException" "java/lang/Throwable" "stackTrace" "[Ljava/lang/StackTraceElement;") ∈ gw := gw_of (i := 309) (by decide +kernel) (by decide +kernel)
theorem wk_310 : (Jvm.Cond.lays "java/lang/IllegalArgumentException" "java/lang/Throwable" "suppressedExceptions" "Ljava/util/List;") ∈ gw := gw_of (i := 310) (by decide +kernel) (by decide +kernel)
theorem wk_311 : (Jvm.Cond.lays "java/lang/IllegalArgumentException" "java/lang/Throwable" "detailMessage" "Ljava/lang/String;") ∈ gw := gw_of (i := 311) (by decide +kernel) (by decide +kernel)
theorem wk_312 : (Jvm.Cond.lays "java/lang/IllegalArgumentException" "java/lang/Throwable" "backtrace" "Ljava/lang/Object;") ∈ gw := gw_of (i := 312) (by decide +kernel) (by decide +kernel)
theorem wk_314 : (Jvm.Cond.methodLink "ListWeave" (123 : Nat) ({ cls := "java/lang/IllegalArgumentException", name := "<init>", desc := "(Ljava/lang/String;)V" } : Jvm.MethodName)) ∈ gw := gw_of (i := 314) (by decide +kernel) (by decide +kernel)
theorem wk_315 : (Jvm.Cond.instanceMethod ({ cls := "java/lang/IllegalArgumentException", name := "<init>", desc := "(Ljava/lang/String;)V" } : Jvm.MethodName)) ∈ gw := gw_of (i := 315) (by decide +kernel) (by decide +kernel)
theorem wk_316 : (Jvm.Cond.code ({ cls := "java/lang/IllegalArgumentException", name := "<init>", desc := "(Ljava/lang/String;)V" } : Jvm.MethodName) prog_7_method_2_code (2 : Nat) (Option.none : Option Jvm.ClassFile.FieldType)) ∈ gw := gw_of (i := 316) (by decide +kernel) (by decide +kernel)
theorem wk_317 : (Jvm.Cond.methodLink "java/lang/IllegalArgumentException" (7 : Nat) ({ cls := "java/lang/RuntimeException", name := "<init>", desc := "(Ljava/lang/String;)V" } : Jvm.MethodName)) ∈ gw := gw_of (i := 317) (by decide +kernel) (by decide +kernel)
theorem wk_318 : (Jvm.Cond.lays "java/lang/IllegalArgumentException" "java/lang/Throwable" "depth" "I") ∈ gw := gw_of (i := 318) (by decide +kernel) (by decide +kernel)
theorem wk_320 : (Jvm.Cond.methodLink "ListWeaveLaw" (81 : Nat) ({ cls := "ListWeaveLaw", name := "before", desc := "(LListWeave;II[J)I" } : Jvm.MethodName)) ∈ gw := gw_of (i := 320) (by decide +kernel) (by decide +kernel)
theorem wk_321 : (Jvm.Cond.static ({ cls := "ListWeaveLaw", name := "before", desc := "(LListWeave;II[J)I" } : Jvm.MethodName)) ∈ gw := gw_of (i := 321) (by decide +kernel) (by decide +kernel)
theorem wk_322 : (Jvm.Cond.codeWith ({ cls := "ListWeaveLaw", name := "before", desc := "(LListWeave;II[J)I" } : Jvm.MethodName) method_5_code (5 : Nat) (Option.some Jvm.ClassFile.FieldType.int) [((0 : Nat), (17 : Nat), (20 : Nat), (19 : Nat))]) ∈ gw := gw_of (i := 322) (by decide +kernel) (by decide +kernel)
theorem wk_323 : (Jvm.Cond.methodLink "ListWeaveLaw" (21 : Nat) ({ cls := "ListWeave", name := "before", desc := "(II)Z" } : Jvm.MethodName)) ∈ gw := gw_of (i := 323) (by decide +kernel) (by decide +kernel)
theorem wk_324 : (Jvm.Cond.instanceMethod ({ cls := "ListWeave", name := "before", desc := "(II)Z" } : Jvm.MethodName)) ∈ gw := gw_of (i := 324) (by decide +kernel) (by decide +kernel)
theorem wk_325 : (Jvm.Cond.selects "ListWeave" ({ cls := "ListWeave", name := "before", desc := "(II)Z" } : Jvm.MethodName) ({ cls := "ListWeave", name := "before", desc := "(II)Z" } : Jvm.MethodName)) ∈ gw := gw_of (i := 325) (by decide +kernel) (by decide +kernel)
theorem wk_326 : (Jvm.Cond.code ({ cls := "ListWeave", name := "before", desc := "(II)Z" } : Jvm.MethodName) prog_1_method_11_code (5 : Nat) (Option.some Jvm.ClassFile.FieldType.boolean)) ∈ gw := gw_of (i := 326) (by decide +kernel) (by decide +kernel)
theorem wk_327 : (Jvm.Cond.methodLink "ListWeaveLaw" (84 : Nat) ({ cls := "ListWeaveLaw", name := "row", desc := "(LListWeave;I[J)I" } : Jvm.MethodName)) ∈ gw := gw_of (i := 327) (by decide +kernel) (by decide +kernel)
theorem wk_328 : (Jvm.Cond.static ({ cls := "ListWeaveLaw", name := "row", desc := "(LListWeave;I[J)I" } : Jvm.MethodName)) ∈ gw := gw_of (i := 328) (by decide +kernel) (by decide +kernel)
theorem wk_329 : (Jvm.Cond.codeWith ({ cls := "ListWeaveLaw", name := "row", desc := "(LListWeave;I[J)I" } : Jvm.MethodName) method_6_code (4 : Nat) (Option.some Jvm.ClassFile.FieldType.int) [((0 : Nat), (9 : Nat), (12 : Nat), (13 : Nat))]) ∈ gw := gw_of (i := 329) (by decide +kernel) (by decide +kernel)
theorem wk_330 : (Jvm.Cond.methodLink "ListWeaveLaw" (25 : Nat) ({ cls := "ListWeave", name := "row", desc := "(I)I" } : Jvm.MethodName)) ∈ gw := gw_of (i := 330) (by decide +kernel) (by decide +kernel)
theorem wk_331 : (Jvm.Cond.instanceMethod ({ cls := "ListWeave", name := "row", desc := "(I)I" } : Jvm.MethodName)) ∈ gw := gw_of (i := 331) (by decide +kernel) (by decide +kernel)
theorem wk_332 : (Jvm.Cond.selects "ListWeave" ({ cls := "ListWeave", name := "row", desc := "(I)I" } : Jvm.MethodName) ({ cls := "ListWeave", name := "row", desc := "(I)I" } : Jvm.MethodName)) ∈ gw := gw_of (i := 332) (by decide +kernel) (by decide +kernel)
theorem wk_333 : (Jvm.Cond.code ({ cls := "ListWeave", name := "row", desc := "(I)I" } : Jvm.MethodName) prog_1_method_12_code (3 : Nat) (Option.some Jvm.ClassFile.FieldType.int)) ∈ gw := gw_of (i := 333) (by decide +kernel) (by decide +kernel)
theorem wk_335 : (Jvm.Cond.methodLink "ListWeaveLaw" (87 : Nat) ({ cls := "ListWeaveLaw", name := "of", desc := "(LListWeave;II[J)I" } : Jvm.MethodName)) ∈ gw := gw_of (i := 335) (by decide +kernel) (by decide +kernel)
theorem wk_336 : (Jvm.Cond.static ({ cls := "ListWeaveLaw", name := "of", desc := "(LListWeave;II[J)I" } : Jvm.MethodName)) ∈ gw := gw_of (i := 336) (by decide +kernel) (by decide +kernel)
theorem wk_337 : (Jvm.Cond.codeWith ({ cls := "ListWeaveLaw", name := "of", desc := "(LListWeave;II[J)I" } : Jvm.MethodName) method_7_code (5 : Nat) (Option.some Jvm.ClassFile.FieldType.int) [((0 : Nat), (10 : Nat), (13 : Nat), (19 : Nat))]) ∈ gw := gw_of (i := 337) (by decide +kernel) (by decide +kernel)
theorem wk_338 : (Jvm.Cond.methodLink "ListWeaveLaw" (28 : Nat) ({ cls := "ListWeave", name := "of", desc := "(II)I" } : Jvm.MethodName)) ∈ gw := gw_of (i := 338) (by decide +kernel) (by decide +kernel)
theorem wk_339 : (Jvm.Cond.instanceMethod ({ cls := "ListWeave", name := "of", desc := "(II)I" } : Jvm.MethodName)) ∈ gw := gw_of (i := 339) (by decide +kernel) (by decide +kernel)
theorem wk_340 : (Jvm.Cond.selects "ListWeave" ({ cls := "ListWeave", name := "of", desc := "(II)I" } : Jvm.MethodName) ({ cls := "ListWeave", name := "of", desc := "(II)I" } : Jvm.MethodName)) ∈ gw := gw_of (i := 340) (by decide +kernel) (by decide +kernel)
theorem wk_341 : (Jvm.Cond.code ({ cls := "ListWeave", name := "of", desc := "(II)I" } : Jvm.MethodName) prog_1_method_13_code (4 : Nat) (Option.some Jvm.ClassFile.FieldType.int)) ∈ gw := gw_of (i := 341) (by decide +kernel) (by decide +kernel)
theorem wk_343 : (Jvm.Cond.classLink "ListWeaveLaw" (32 : Nat) "ListWeaveModel") ∈ gw := gw_of (i := 343) (by decide +kernel) (by decide +kernel)
theorem wk_344 : (Jvm.Cond.instantiable "ListWeaveModel" (13 : Nat)) ∈ gw := gw_of (i := 344) (by decide +kernel) (by decide +kernel)
theorem wk_345 : (Jvm.Cond.methodLink "ListWeaveLaw" (34 : Nat) ({ cls := "ListWeaveModel", name := "<init>", desc := "()V" } : Jvm.MethodName)) ∈ gw := gw_of (i := 345) (by decide +kernel) (by decide +kernel)
theorem wk_346 : (Jvm.Cond.instanceMethod ({ cls := "ListWeaveModel", name := "<init>", desc := "()V" } : Jvm.MethodName)) ∈ gw := gw_of (i := 346) (by decide +kernel) (by decide +kernel)
theorem wk_347 : (Jvm.Cond.code ({ cls := "ListWeaveModel", name := "<init>", desc := "()V" } : Jvm.MethodName) prog_5_method_1_code (1 : Nat) (Option.none : Option Jvm.ClassFile.FieldType)) ∈ gw := gw_of (i := 347) (by decide +kernel) (by decide +kernel)
theorem wk_348 : (Jvm.Cond.methodLink "ListWeaveModel" (1 : Nat) ({ cls := "java/lang/Object", name := "<init>", desc := "()V" } : Jvm.MethodName)) ∈ gw := gw_of (i := 348) (by decide +kernel) (by decide +kernel)
theorem wk_349 : (Jvm.Cond.fieldLink "ListWeaveModel" (40 : Nat) "ListWeaveModel" "thrown" "I") ∈ gw := gw_of (i := 349) (by decide +kernel) (by decide +kernel)
theorem wk_350 : (Jvm.Cond.fieldLink "ListWeaveModel" (44 : Nat) "ListWeaveModel" "many" "I") ∈ gw := gw_of (i := 350) (by decide +kernel) (by decide +kernel)
theorem wk_351 : (Jvm.Cond.fieldLink "ListWeaveModel" (7 : Nat) "ListWeaveModel" "ids" "[I") ∈ gw := gw_of (i := 351) (by decide +kernel) (by decide +kernel)
theorem wk_352 : (Jvm.Cond.fieldLink "ListWeaveModel" (13 : Nat) "ListWeaveModel" "behinds" "[I") ∈ gw := gw_of (i := 352) (by decide +kernel) (by decide +kernel)
theorem wk_353 : (Jvm.Cond.fieldLink "ListWeaveModel" (16 : Nat) "ListWeaveModel" "kinds" "[I") ∈ gw := gw_of (i := 353) (by decide +kernel) (by decide +kernel)
theorem wk_354 : (Jvm.Cond.fieldLink "ListWeaveModel" (19 : Nat) "ListWeaveModel" "values" "[I") ∈ gw := gw_of (i := 354) (by decide +kernel) (by decide +kernel)
theorem wk_355 : (Jvm.Cond.fieldLink "ListWeaveModel" (52 : Nat) "ListWeaveModel" "done" "I") ∈ gw := gw_of (i := 355) (by decide +kernel) (by decide +kernel)
theorem wk_356 : (Jvm.Cond.fieldLink "ListWeaveModel" (22 : Nat) "ListWeaveModel" "doneIds" "[I") ∈ gw := gw_of (i := 356) (by decide +kernel) (by decide +kernel)
theorem wk_357 : (Jvm.Cond.fieldLink "ListWeaveModel" (25 : Nat) "ListWeaveModel" "doneOf" "[I") ∈ gw := gw_of (i := 357) (by decide +kernel) (by decide +kernel)
theorem wk_358 : (Jvm.Cond.fieldLink "ListWeaveModel" (28 : Nat) "ListWeaveModel" "doneKinds" "[I") ∈ gw := gw_of (i := 358) (by decide +kernel) (by decide +kernel)
theorem wk_359 : (Jvm.Cond.fieldLink "ListWeaveModel" (31 : Nat) "ListWeaveModel" "doneValues" "[I") ∈ gw := gw_of (i := 359) (by decide +kernel) (by decide +kernel)
theorem wk_360 : (Jvm.Cond.fieldLink "ListWeaveModel" (34 : Nat) "ListWeaveModel" "order" "[I") ∈ gw := gw_of (i := 360) (by decide +kernel) (by decide +kernel)
theorem wk_361 : (Jvm.Cond.fieldLink "ListWeaveModel" (37 : Nat) "ListWeaveModel" "stack" "[I") ∈ gw := gw_of (i := 361) (by decide +kernel) (by decide +kernel)
theorem wk_362 : (Jvm.Cond.lays "ListWeaveModel" "ListWeaveModel" "thrown" "I") ∈ gw := gw_of (i := 362) (by decide +kernel) (by decide +kernel)
theorem wk_364 : (Jvm.Cond.lays "ListWeaveModel" "ListWeaveModel" "many" "I") ∈ gw := gw_of (i := 364) (by decide +kernel) (by decide +kernel)
theorem wk_366 : (Jvm.Cond.laysFinal "ListWeaveModel" "ListWeaveModel" "ids" "[I") ∈ gw := gw_of (i := 366) (by decide +kernel) (by decide +kernel)
theorem wk_368 : (Jvm.Cond.laysFinal "ListWeaveModel" "ListWeaveModel" "behinds" "[I") ∈ gw := gw_of (i := 368) (by decide +kernel) (by decide +kernel)
theorem wk_370 : (Jvm.Cond.laysFinal "ListWeaveModel" "ListWeaveModel" "kinds" "[I") ∈ gw := gw_of (i := 370) (by decide +kernel) (by decide +kernel)
theorem wk_372 : (Jvm.Cond.laysFinal "ListWeaveModel" "ListWeaveModel" "values" "[I") ∈ gw := gw_of (i := 372) (by decide +kernel) (by decide +kernel)
theorem wk_374 : (Jvm.Cond.lays "ListWeaveModel" "ListWeaveModel" "done" "I") ∈ gw := gw_of (i := 374) (by decide +kernel) (by decide +kernel)
theorem wk_376 : (Jvm.Cond.laysFinal "ListWeaveModel" "ListWeaveModel" "doneIds" "[I") ∈ gw := gw_of (i := 376) (by decide +kernel) (by decide +kernel)
theorem wk_378 : (Jvm.Cond.laysFinal "ListWeaveModel" "ListWeaveModel" "doneOf" "[I") ∈ gw := gw_of (i := 378) (by decide +kernel) (by decide +kernel)
theorem wk_380 : (Jvm.Cond.laysFinal "ListWeaveModel" "ListWeaveModel" "doneKinds" "[I") ∈ gw := gw_of (i := 380) (by decide +kernel) (by decide +kernel)
theorem wk_382 : (Jvm.Cond.laysFinal "ListWeaveModel" "ListWeaveModel" "doneValues" "[I") ∈ gw := gw_of (i := 382) (by decide +kernel) (by decide +kernel)
theorem wk_384 : (Jvm.Cond.laysFinal "ListWeaveModel" "ListWeaveModel" "order" "[I") ∈ gw := gw_of (i := 384) (by decide +kernel) (by decide +kernel)
theorem wk_386 : (Jvm.Cond.laysFinal "ListWeaveModel" "ListWeaveModel" "stack" "[I") ∈ gw := gw_of (i := 386) (by decide +kernel) (by decide +kernel)
theorem wk_389 : (Jvm.Cond.methodLink "ListWeaveLaw" (70 : Nat) ({ cls := "ListWeaveModel", name := "thrown", desc := "()I" } : Jvm.MethodName)) ∈ gw := gw_of (i := 389) (by decide +kernel) (by decide +kernel)
theorem wk_390 : (Jvm.Cond.instanceMethod ({ cls := "ListWeaveModel", name := "thrown", desc := "()I" } : Jvm.MethodName)) ∈ gw := gw_of (i := 390) (by decide +kernel) (by decide +kernel)
theorem wk_391 : (Jvm.Cond.selects "ListWeaveModel" ({ cls := "ListWeaveModel", name := "thrown", desc := "()I" } : Jvm.MethodName) ({ cls := "ListWeaveModel", name := "thrown", desc := "()I" } : Jvm.MethodName)) ∈ gw := gw_of (i := 391) (by decide +kernel) (by decide +kernel)
theorem wk_392 : (Jvm.Cond.code ({ cls := "ListWeaveModel", name := "thrown", desc := "()I" } : Jvm.MethodName) prog_5_method_2_code (1 : Nat) (Option.some Jvm.ClassFile.FieldType.int)) ∈ gw := gw_of (i := 392) (by decide +kernel) (by decide +kernel)
theorem wk_393 : (Jvm.Cond.methodLink "ListWeaveLaw" (38 : Nat) ({ cls := "ListWeaveModel", name := "clear", desc := "()V" } : Jvm.MethodName)) ∈ gw := gw_of (i := 393) (by decide +kernel) (by decide +kernel)
theorem wk_394 : (Jvm.Cond.instanceMethod ({ cls := "ListWeaveModel", name := "clear", desc := "()V" } : Jvm.MethodName)) ∈ gw := gw_of (i := 394) (by decide +kernel) (by decide +kernel)
theorem wk_395 : (Jvm.Cond.selects "ListWeaveModel" ({ cls := "ListWeaveModel", name := "clear", desc := "()V" } : Jvm.MethodName) ({ cls := "ListWeaveModel", name := "clear", desc := "()V" } : Jvm.MethodName)) ∈ gw := gw_of (i := 395) (by decide +kernel) (by decide +kernel)
theorem wk_396 : (Jvm.Cond.code ({ cls := "ListWeaveModel", name := "clear", desc := "()V" } : Jvm.MethodName) prog_5_method_8_code (1 : Nat) (Option.none : Option Jvm.ClassFile.FieldType)) ∈ gw := gw_of (i := 396) (by decide +kernel) (by decide +kernel)
theorem wk_397 : (Jvm.Cond.methodLink "ListWeaveLaw" (43 : Nat) ({ cls := "ListWeaveModel", name := "insert", desc := "(IIII)Z" } : Jvm.MethodName)) ∈ gw := gw_of (i := 397) (by decide +kernel) (by decide +kernel)
theorem wk_398 : (Jvm.Cond.instanceMethod ({ cls := "ListWeaveModel", name := "insert", desc := "(IIII)Z" } : Jvm.MethodName)) ∈ gw := gw_of (i := 398) (by decide +kernel) (by decide +kernel)
theorem wk_399 : (Jvm.Cond.selects "ListWeaveModel" ({ cls := "ListWeaveModel", name := "insert", desc := "(IIII)Z" } : Jvm.MethodName) ({ cls := "ListWeaveModel", name := "insert", desc := "(IIII)Z" } : Jvm.MethodName)) ∈ gw := gw_of (i := 399) (by decide +kernel) (by decide +kernel)
theorem wk_400 : (Jvm.Cond.code ({ cls := "ListWeaveModel", name := "insert", desc := "(IIII)Z" } : Jvm.MethodName) prog_5_method_9_code (5 : Nat) (Option.some Jvm.ClassFile.FieldType.boolean)) ∈ gw := gw_of (i := 400) (by decide +kernel) (by decide +kernel)
theorem wk_401 : (Jvm.Cond.methodLink "ListWeaveModel" (59 : Nat) ({ cls := "ListWeaveModel", name := "canInsert", desc := "(II)Z" } : Jvm.MethodName)) ∈ gw := gw_of (i := 401) (by decide +kernel) (by decide +kernel)
theorem wk_403 : (Jvm.Cond.instanceMethod ({ cls := "ListWeaveModel", name := "canInsert", desc := "(II)Z" } : Jvm.MethodName)) ∈ gw := gw_of (i := 403) (by decide +kernel) (by decide +kernel)
theorem wk_404 : (Jvm.Cond.code ({ cls := "ListWeaveModel", name := "canInsert", desc := "(II)Z" } : Jvm.MethodName) prog_5_method_7_code (3 : Nat) (Option.some Jvm.ClassFile.FieldType.boolean)) ∈ gw := gw_of (i := 404) (by decide +kernel) (by decide +kernel)
theorem wk_405 : (Jvm.Cond.methodLink "ListWeaveModel" (55 : Nat) ({ cls := "ListWeaveModel", name := "isNew", desc := "(I)Z" } : Jvm.MethodName)) ∈ gw := gw_of (i := 405) (by decide +kernel) (by decide +kernel)
theorem wk_407 : (Jvm.Cond.instanceMethod ({ cls := "ListWeaveModel", name := "isNew", desc := "(I)Z" } : Jvm.MethodName)) ∈ gw := gw_of (i := 407) (by decide +kernel) (by decide +kernel)
theorem wk_408 : (Jvm.Cond.code ({ cls := "ListWeaveModel", name := "isNew", desc := "(I)Z" } : Jvm.MethodName) prog_5_method_4_code (4 : Nat) (Option.some Jvm.ClassFile.FieldType.boolean)) ∈ gw := gw_of (i := 408) (by decide +kernel) (by decide +kernel)
theorem wk_409 : (Jvm.Cond.constant "ListWeaveModel" (47 : Nat) (800007 : Int32)) ∈ gw := gw_of (i := 409) (by decide +kernel) (by decide +kernel)
theorem wk_410 : (Jvm.Cond.methodLink "ListWeaveModel" (48 : Nat) ({ cls := "ListWeaveModel", name := "placeOf", desc := "(I)I" } : Jvm.MethodName)) ∈ gw := gw_of (i := 410) (by decide +kernel) (by decide +kernel)
theorem wk_412 : (Jvm.Cond.instanceMethod ({ cls := "ListWeaveModel", name := "placeOf", desc := "(I)I" } : Jvm.MethodName)) ∈ gw := gw_of (i := 412) (by decide +kernel) (by decide +kernel)
theorem wk_413 : (Jvm.Cond.code ({ cls := "ListWeaveModel", name := "placeOf", desc := "(I)I" } : Jvm.MethodName) prog_5_method_3_code (4 : Nat) (Option.some Jvm.ClassFile.FieldType.int)) ∈ gw := gw_of (i := 413) (by decide +kernel) (by decide +kernel)
theorem wk_414 : (Jvm.Cond.methodLink "ListWeaveModel" (63 : Nat) ({ cls := "ListWeaveModel", name := "isKind", desc := "(I)Z" } : Jvm.MethodName)) ∈ gw := gw_of (i := 414) (by decide +kernel) (by decide +kernel)
theorem wk_415 : (Jvm.Cond.static ({ cls := "ListWeaveModel", name := "isKind", desc := "(I)Z" } : Jvm.MethodName)) ∈ gw := gw_of (i := 415) (by decide +kernel) (by decide +kernel)
theorem wk_416 : (Jvm.Cond.code ({ cls := "ListWeaveModel", name := "isKind", desc := "(I)Z" } : Jvm.MethodName) prog_5_method_5_code (1 : Nat) (Option.some Jvm.ClassFile.FieldType.boolean)) ∈ gw := gw_of (i := 416) (by decide +kernel) (by decide +kernel)
theorem wk_417 : (Jvm.Cond.methodLink "ListWeaveModel" (66 : Nat) ({ cls := "ListWeaveModel", name := "keep", desc := "(IIII)V" } : Jvm.MethodName)) ∈ gw := gw_of (i := 417) (by decide +kernel) (by decide +kernel)
theorem wk_419 : (Jvm.Cond.instanceMethod ({ cls := "ListWeaveModel", name := "keep", desc := "(IIII)V" } : Jvm.MethodName)) ∈ gw := gw_of (i := 419) (by decide +kernel) (by decide +kernel)
theorem wk_420 : (Jvm.Cond.code ({ cls := "ListWeaveModel", name := "keep", desc := "(IIII)V" } : Jvm.MethodName) prog_5_method_6_code (5 : Nat) (Option.none : Option Jvm.ClassFile.FieldType)) ∈ gw := gw_of (i := 420) (by decide +kernel) (by decide +kernel)
theorem wk_421 : (Jvm.Cond.methodLink "ListWeaveLaw" (50 : Nat) ({ cls := "ListWeaveModel", name := "run", desc := "(IIIJ)Z" } : Jvm.MethodName)) ∈ gw := gw_of (i := 421) (by decide +kernel) (by decide +kernel)
theorem wk_422 : (Jvm.Cond.instanceMethod ({ cls := "ListWeaveModel", name := "run", desc := "(IIIJ)Z" } : Jvm.MethodName)) ∈ gw := gw_of (i := 422) (by decide +kernel) (by decide +kernel)
theorem wk_423 : (Jvm.Cond.selects "ListWeaveModel" ({ cls := "ListWeaveModel", name := "run", desc := "(IIIJ)Z" } : Jvm.MethodName) ({ cls := "ListWeaveModel", name := "run", desc := "(IIIJ)Z" } : Jvm.MethodName)) ∈ gw := gw_of (i := 423) (by decide +kernel) (by decide +kernel)
theorem wk_424 : (Jvm.Cond.code ({ cls := "ListWeaveModel", name := "run", desc := "(IIIJ)Z" } : Jvm.MethodName) prog_5_method_10_code (7 : Nat) (Option.some Jvm.ClassFile.FieldType.boolean)) ∈ gw := gw_of (i := 424) (by decide +kernel) (by decide +kernel)
theorem wk_425 : (Jvm.Cond.constantLong "ListWeaveModel" (70 : Nat) (255 : Int64)) ∈ gw := gw_of (i := 425) (by decide +kernel) (by decide +kernel)
theorem wk_426 : (Jvm.Cond.methodLink "ListWeaveLaw" (54 : Nat) ({ cls := "ListWeaveModel", name := "set", desc := "(IIII)Z" } : Jvm.MethodName)) ∈ gw := gw_of (i := 426) (by decide +kernel) (by decide +kernel)
theorem wk_427 : (Jvm.Cond.instanceMethod ({ cls := "ListWeaveModel", name := "set", desc := "(IIII)Z" } : Jvm.MethodName)) ∈ gw := gw_of (i := 427) (by decide +kernel) (by decide +kernel)
theorem wk_428 : (Jvm.Cond.selects "ListWeaveModel" ({ cls := "ListWeaveModel", name := "set", desc := "(IIII)Z" } : Jvm.MethodName) ({ cls := "ListWeaveModel", name := "set", desc := "(IIII)Z" } : Jvm.MethodName)) ∈ gw := gw_of (i := 428) (by decide +kernel) (by decide +kernel)
theorem wk_429 : (Jvm.Cond.code ({ cls := "ListWeaveModel", name := "set", desc := "(IIII)Z" } : Jvm.MethodName) prog_5_method_12_code (5 : Nat) (Option.some Jvm.ClassFile.FieldType.boolean)) ∈ gw := gw_of (i := 429) (by decide +kernel) (by decide +kernel)
theorem wk_430 : (Jvm.Cond.methodLink "ListWeaveModel" (72 : Nat) ({ cls := "ListWeaveModel", name := "does", desc := "(IIII)Z" } : Jvm.MethodName)) ∈ gw := gw_of (i := 430) (by decide +kernel) (by decide +kernel)
theorem wk_432 : (Jvm.Cond.instanceMethod ({ cls := "ListWeaveModel", name := "does", desc := "(IIII)Z" } : Jvm.MethodName)) ∈ gw := gw_of (i := 432) (by decide +kernel) (by decide +kernel)
theorem wk_433 : (Jvm.Cond.code ({ cls := "ListWeaveModel", name := "does", desc := "(IIII)Z" } : Jvm.MethodName) prog_5_method_11_code (5 : Nat) (Option.some Jvm.ClassFile.FieldType.boolean)) ∈ gw := gw_of (i := 433) (by decide +kernel) (by decide +kernel)
theorem wk_434 : (Jvm.Cond.methodLink "ListWeaveLaw" (58 : Nat) ({ cls := "ListWeaveModel", name := "remove", desc := "(II)Z" } : Jvm.MethodName)) ∈ gw := gw_of (i := 434) (by decide +kernel) (by decide +kernel)
theorem wk_435 : (Jvm.Cond.instanceMethod ({ cls := "ListWeaveModel", name := "remove", desc := "(II)Z" } : Jvm.MethodName)) ∈ gw := gw_of (i := 435) (by decide +kernel) (by decide +kernel)
theorem wk_436 : (Jvm.Cond.selects "ListWeaveModel" ({ cls := "ListWeaveModel", name := "remove", desc := "(II)Z" } : Jvm.MethodName) ({ cls := "ListWeaveModel", name := "remove", desc := "(II)Z" } : Jvm.MethodName)) ∈ gw := gw_of (i := 436) (by decide +kernel) (by decide +kernel)
theorem wk_437 : (Jvm.Cond.code ({ cls := "ListWeaveModel", name := "remove", desc := "(II)Z" } : Jvm.MethodName) prog_5_method_13_code (3 : Nat) (Option.some Jvm.ClassFile.FieldType.boolean)) ∈ gw := gw_of (i := 437) (by decide +kernel) (by decide +kernel)
theorem wk_438 : (Jvm.Cond.methodLink "ListWeaveLaw" (63 : Nat) ({ cls := "ListWeaveModel", name := "size", desc := "()I" } : Jvm.MethodName)) ∈ gw := gw_of (i := 438) (by decide +kernel) (by decide +kernel)
theorem wk_439 : (Jvm.Cond.instanceMethod ({ cls := "ListWeaveModel", name := "size", desc := "()I" } : Jvm.MethodName)) ∈ gw := gw_of (i := 439) (by decide +kernel) (by decide +kernel)
theorem wk_440 : (Jvm.Cond.selects "ListWeaveModel" ({ cls := "ListWeaveModel", name := "size", desc := "()I" } : Jvm.MethodName) ({ cls := "ListWeaveModel", name := "size", desc := "()I" } : Jvm.MethodName)) ∈ gw := gw_of (i := 440) (by decide +kernel) (by decide +kernel)
theorem wk_441 : (Jvm.Cond.code ({ cls := "ListWeaveModel", name := "size", desc := "()I" } : Jvm.MethodName) prog_5_method_22_code (1 : Nat) (Option.some Jvm.ClassFile.FieldType.int)) ∈ gw := gw_of (i := 441) (by decide +kernel) (by decide +kernel)
theorem wk_442 : (Jvm.Cond.methodLink "ListWeaveModel" (89 : Nat) ({ cls := "ListWeaveModel", name := "sizeOf", desc := "()I" } : Jvm.MethodName)) ∈ gw := gw_of (i := 442) (by decide +kernel) (by decide +kernel)
theorem wk_444 : (Jvm.Cond.instanceMethod ({ cls := "ListWeaveModel", name := "sizeOf", desc := "()I" } : Jvm.MethodName)) ∈ gw := gw_of (i := 444) (by decide +kernel) (by decide +kernel)
theorem wk_445 : (Jvm.Cond.code ({ cls := "ListWeaveModel", name := "sizeOf", desc := "()I" } : Jvm.MethodName) prog_5_method_21_code (3 : Nat) (Option.some Jvm.ClassFile.FieldType.int)) ∈ gw := gw_of (i := 445) (by decide +kernel) (by decide +kernel)
theorem wk_446 : (Jvm.Cond.methodLink "ListWeaveModel" (86 : Nat) ({ cls := "ListWeaveModel", name := "isRemoved", desc := "(I)Z" } : Jvm.MethodName)) ∈ gw := gw_of (i := 446) (by decide +kernel) (by decide +kernel)
theorem wk_448 : (Jvm.Cond.instanceMethod ({ cls := "ListWeaveModel", name := "isRemoved", desc := "(I)Z" } : Jvm.MethodName)) ∈ gw := gw_of (i := 448) (by decide +kernel) (by decide +kernel)
theorem wk_449 : (Jvm.Cond.code ({ cls := "ListWeaveModel", name := "isRemoved", desc := "(I)Z" } : Jvm.MethodName) prog_5_method_14_code (4 : Nat) (Option.some Jvm.ClassFile.FieldType.boolean)) ∈ gw := gw_of (i := 449) (by decide +kernel) (by decide +kernel)
theorem wk_450 : (Jvm.Cond.methodLink "ListWeaveLaw" (69 : Nat) ({ cls := "ListWeaveModel", name := "at", desc := "(II)I" } : Jvm.MethodName)) ∈ gw := gw_of (i := 450) (by decide +kernel) (by decide +kernel)
theorem wk_451 : (Jvm.Cond.instanceMethod ({ cls := "ListWeaveModel", name := "at", desc := "(II)I" } : Jvm.MethodName)) ∈ gw := gw_of (i := 451) (by decide +kernel) (by decide +kernel)
theorem wk_452 : (Jvm.Cond.selects "ListWeaveModel" ({ cls := "ListWeaveModel", name := "at", desc := "(II)I" } : Jvm.MethodName) ({ cls := "ListWeaveModel", name := "at", desc := "(II)I" } : Jvm.MethodName)) ∈ gw := gw_of (i := 452) (by decide +kernel) (by decide +kernel)
theorem wk_453 : (Jvm.Cond.code ({ cls := "ListWeaveModel", name := "at", desc := "(II)I" } : Jvm.MethodName) prog_5_method_24_code (4 : Nat) (Option.some Jvm.ClassFile.FieldType.int)) ∈ gw := gw_of (i := 453) (by decide +kernel) (by decide +kernel)
theorem wk_454 : (Jvm.Cond.methodLink "ListWeaveModel" (93 : Nat) ({ cls := "ListWeaveModel", name := "elementAt", desc := "(I)I" } : Jvm.MethodName)) ∈ gw := gw_of (i := 454) (by decide +kernel) (by decide +kernel)
theorem wk_456 : (Jvm.Cond.instanceMethod ({ cls := "ListWeaveModel", name := "elementAt", desc := "(I)I" } : Jvm.MethodName)) ∈ gw := gw_of (i := 456) (by decide +kernel) (by decide +kernel)
theorem wk_457 : (Jvm.Cond.code ({ cls := "ListWeaveModel", name := "elementAt", desc := "(I)I" } : Jvm.MethodName) prog_5_method_20_code (4 : Nat) (Option.some Jvm.ClassFile.FieldType.int)) ∈ gw := gw_of (i := 457) (by decide +kernel) (by decide +kernel)
theorem wk_458 : (Jvm.Cond.methodLink "ListWeaveModel" (83 : Nat) ({ cls := "ListWeaveModel", name := "weave", desc := "()V" } : Jvm.MethodName)) ∈ gw := gw_of (i := 458) (by decide +kernel) (by decide +kernel)
theorem wk_460 : (Jvm.Cond.instanceMethod ({ cls := "ListWeaveModel", name := "weave", desc := "()V" } : Jvm.MethodName)) ∈ gw := gw_of (i := 460) (by decide +kernel) (by decide +kernel)
theorem wk_461 : (Jvm.Cond.code ({ cls := "ListWeaveModel", name := "weave", desc := "()V" } : Jvm.MethodName) prog_5_method_19_code (4 : Nat) (Option.none : Option Jvm.ClassFile.FieldType)) ∈ gw := gw_of (i := 461) (by decide +kernel) (by decide +kernel)
theorem wk_462 : (Jvm.Cond.methodLink "ListWeaveModel" (79 : Nat) ({ cls := "ListWeaveModel", name := "push", desc := "(II)I" } : Jvm.MethodName)) ∈ gw := gw_of (i := 462) (by decide +kernel) (by decide +kernel)
theorem wk_464 : (Jvm.Cond.instanceMethod ({ cls := "ListWeaveModel", name := "push", desc := "(II)I" } : Jvm.MethodName)) ∈ gw := gw_of (i := 464) (by decide +kernel) (by decide +kernel)
theorem wk_465 : (Jvm.Cond.code ({ cls := "ListWeaveModel", name := "push", desc := "(II)I" } : Jvm.MethodName) prog_5_method_18_code (7 : Nat) (Option.some Jvm.ClassFile.FieldType.int)) ∈ gw := gw_of (i := 465) (by decide +kernel) (by decide +kernel)
theorem wk_466 : (Jvm.Cond.methodLink "ListWeaveModel" (96 : Nat) ({ cls := "ListWeaveModel", name := "kindOf", desc := "(I)I" } : Jvm.MethodName)) ∈ gw := gw_of (i := 466) (by decide +kernel) (by decide +kernel)
theorem wk_468 : (Jvm.Cond.instanceMethod ({ cls := "ListWeaveModel", name := "kindOf", desc := "(I)I" } : Jvm.MethodName)) ∈ gw := gw_of (i := 468) (by decide +kernel) (by decide +kernel)
theorem wk_469 : (Jvm.Cond.code ({ cls := "ListWeaveModel", name := "kindOf", desc := "(I)I" } : Jvm.MethodName) prog_5_method_16_code (3 : Nat) (Option.some Jvm.ClassFile.FieldType.int)) ∈ gw := gw_of (i := 469) (by decide +kernel) (by decide +kernel)
theorem wk_470 : (Jvm.Cond.methodLink "ListWeaveModel" (76 : Nat) ({ cls := "ListWeaveModel", name := "standing", desc := "(I)I" } : Jvm.MethodName)) ∈ gw := gw_of (i := 470) (by decide +kernel) (by decide +kernel)
theorem wk_472 : (Jvm.Cond.instanceMethod ({ cls := "ListWeaveModel", name := "standing", desc := "(I)I" } : Jvm.MethodName)) ∈ gw := gw_of (i := 472) (by decide +kernel) (by decide +kernel)
theorem wk_473 : (Jvm.Cond.code ({ cls := "ListWeaveModel", name := "standing", desc := "(I)I" } : Jvm.MethodName) prog_5_method_15_code (5 : Nat) (Option.some Jvm.ClassFile.FieldType.int)) ∈ gw := gw_of (i := 473) (by decide +kernel) (by decide +kernel)
theorem wk_474 : (Jvm.Cond.methodLink "ListWeaveModel" (99 : Nat) ({ cls := "ListWeaveModel", name := "valueOf", desc := "(I)I" } : Jvm.MethodName)) ∈ gw := gw_of (i := 474) (by decide +kernel) (by decide +kernel)
theorem wk_476 : (Jvm.Cond.instanceMethod ({ cls := "ListWeaveModel", name := "valueOf", desc := "(I)I" } : Jvm.MethodName)) ∈ gw := gw_of (i := 476) (by decide +kernel) (by decide +kernel)
theorem wk_477 : (Jvm.Cond.code ({ cls := "ListWeaveModel", name := "valueOf", desc := "(I)I" } : Jvm.MethodName) prog_5_method_17_code (3 : Nat) (Option.some Jvm.ClassFile.FieldType.int)) ∈ gw := gw_of (i := 477) (by decide +kernel) (by decide +kernel)
theorem wk_478 : (Jvm.Cond.methodLink "ListWeaveModel" (102 : Nat) ({ cls := "ListWeaveModel", name := "idStanding", desc := "(I)I" } : Jvm.MethodName)) ∈ gw := gw_of (i := 478) (by decide +kernel) (by decide +kernel)
theorem wk_480 : (Jvm.Cond.instanceMethod ({ cls := "ListWeaveModel", name := "idStanding", desc := "(I)I" } : Jvm.MethodName)) ∈ gw := gw_of (i := 480) (by decide +kernel) (by decide +kernel)
theorem wk_481 : (Jvm.Cond.code ({ cls := "ListWeaveModel", name := "idStanding", desc := "(I)I" } : Jvm.MethodName) prog_5_method_23_code (3 : Nat) (Option.some Jvm.ClassFile.FieldType.int)) ∈ gw := gw_of (i := 481) (by decide +kernel) (by decide +kernel)
theorem wk_482 : (Jvm.Cond.methodLink "ListWeaveLaw" (76 : Nat) ({ cls := "ListWeaveModel", name := "place", desc := "(I)I" } : Jvm.MethodName)) ∈ gw := gw_of (i := 482) (by decide +kernel) (by decide +kernel)
theorem wk_483 : (Jvm.Cond.instanceMethod ({ cls := "ListWeaveModel", name := "place", desc := "(I)I" } : Jvm.MethodName)) ∈ gw := gw_of (i := 483) (by decide +kernel) (by decide +kernel)
theorem wk_484 : (Jvm.Cond.selects "ListWeaveModel" ({ cls := "ListWeaveModel", name := "place", desc := "(I)I" } : Jvm.MethodName) ({ cls := "ListWeaveModel", name := "place", desc := "(I)I" } : Jvm.MethodName)) ∈ gw := gw_of (i := 484) (by decide +kernel) (by decide +kernel)
theorem wk_485 : (Jvm.Cond.code ({ cls := "ListWeaveModel", name := "place", desc := "(I)I" } : Jvm.MethodName) prog_5_method_26_code (2 : Nat) (Option.some Jvm.ClassFile.FieldType.int)) ∈ gw := gw_of (i := 485) (by decide +kernel) (by decide +kernel)
theorem wk_486 : (Jvm.Cond.methodLink "ListWeaveModel" (105 : Nat) ({ cls := "ListWeaveModel", name := "aheadOf", desc := "(I)I" } : Jvm.MethodName)) ∈ gw := gw_of (i := 486) (by decide +kernel) (by decide +kernel)
theorem wk_488 : (Jvm.Cond.instanceMethod ({ cls := "ListWeaveModel", name := "aheadOf", desc := "(I)I" } : Jvm.MethodName)) ∈ gw := gw_of (i := 488) (by decide +kernel) (by decide +kernel)
theorem wk_489 : (Jvm.Cond.code ({ cls := "ListWeaveModel", name := "aheadOf", desc := "(I)I" } : Jvm.MethodName) prog_5_method_25_code (4 : Nat) (Option.some Jvm.ClassFile.FieldType.int)) ∈ gw := gw_of (i := 489) (by decide +kernel) (by decide +kernel)
theorem wk_490 : (Jvm.Cond.methodLink "ListWeaveLaw" (80 : Nat) ({ cls := "ListWeaveModel", name := "ahead", desc := "(I)I" } : Jvm.MethodName)) ∈ gw := gw_of (i := 490) (by decide +kernel) (by decide +kernel)
theorem wk_491 : (Jvm.Cond.instanceMethod ({ cls := "ListWeaveModel", name := "ahead", desc := "(I)I" } : Jvm.MethodName)) ∈ gw := gw_of (i := 491) (by decide +kernel) (by decide +kernel)
theorem wk_492 : (Jvm.Cond.selects "ListWeaveModel" ({ cls := "ListWeaveModel", name := "ahead", desc := "(I)I" } : Jvm.MethodName) ({ cls := "ListWeaveModel", name := "ahead", desc := "(I)I" } : Jvm.MethodName)) ∈ gw := gw_of (i := 492) (by decide +kernel) (by decide +kernel)
theorem wk_493 : (Jvm.Cond.code ({ cls := "ListWeaveModel", name := "ahead", desc := "(I)I" } : Jvm.MethodName) prog_5_method_27_code (2 : Nat) (Option.some Jvm.ClassFile.FieldType.int)) ∈ gw := gw_of (i := 493) (by decide +kernel) (by decide +kernel)
theorem wk_494 : (Jvm.Cond.methodLink "ListWeaveLaw" (83 : Nat) ({ cls := "ListWeaveModel", name := "before", desc := "(II)Z" } : Jvm.MethodName)) ∈ gw := gw_of (i := 494) (by decide +kernel) (by decide +kernel)
theorem wk_495 : (Jvm.Cond.instanceMethod ({ cls := "ListWeaveModel", name := "before", desc := "(II)Z" } : Jvm.MethodName)) ∈ gw := gw_of (i := 495) (by decide +kernel) (by decide +kernel)
theorem wk_496 : (Jvm.Cond.selects "ListWeaveModel" ({ cls := "ListWeaveModel", name := "before", desc := "(II)Z" } : Jvm.MethodName) ({ cls := "ListWeaveModel", name := "before", desc := "(II)Z" } : Jvm.MethodName)) ∈ gw := gw_of (i := 496) (by decide +kernel) (by decide +kernel)
theorem wk_497 : (Jvm.Cond.code ({ cls := "ListWeaveModel", name := "before", desc := "(II)Z" } : Jvm.MethodName) prog_5_method_29_code (3 : Nat) (Option.some Jvm.ClassFile.FieldType.boolean)) ∈ gw := gw_of (i := 497) (by decide +kernel) (by decide +kernel)
theorem wk_498 : (Jvm.Cond.methodLink "ListWeaveModel" (108 : Nat) ({ cls := "ListWeaveModel", name := "rowOf", desc := "(I)I" } : Jvm.MethodName)) ∈ gw := gw_of (i := 498) (by decide +kernel) (by decide +kernel)
theorem wk_500 : (Jvm.Cond.instanceMethod ({ cls := "ListWeaveModel", name := "rowOf", desc := "(I)I" } : Jvm.MethodName)) ∈ gw := gw_of (i := 500) (by decide +kernel) (by decide +kernel)
theorem wk_501 : (Jvm.Cond.code ({ cls := "ListWeaveModel", name := "rowOf", desc := "(I)I" } : Jvm.MethodName) prog_5_method_28_code (4 : Nat) (Option.some Jvm.ClassFile.FieldType.int)) ∈ gw := gw_of (i := 501) (by decide +kernel) (by decide +kernel)
theorem wk_502 : (Jvm.Cond.methodLink "ListWeaveLaw" (86 : Nat) ({ cls := "ListWeaveModel", name := "row", desc := "(I)I" } : Jvm.MethodName)) ∈ gw := gw_of (i := 502) (by decide +kernel) (by decide +kernel)
theorem wk_503 : (Jvm.Cond.instanceMethod ({ cls := "ListWeaveModel", name := "row", desc := "(I)I" } : Jvm.MethodName)) ∈ gw := gw_of (i := 503) (by decide +kernel) (by decide +kernel)
theorem wk_504 : (Jvm.Cond.selects "ListWeaveModel" ({ cls := "ListWeaveModel", name := "row", desc := "(I)I" } : Jvm.MethodName) ({ cls := "ListWeaveModel", name := "row", desc := "(I)I" } : Jvm.MethodName)) ∈ gw := gw_of (i := 504) (by decide +kernel) (by decide +kernel)
theorem wk_505 : (Jvm.Cond.code ({ cls := "ListWeaveModel", name := "row", desc := "(I)I" } : Jvm.MethodName) prog_5_method_30_code (2 : Nat) (Option.some Jvm.ClassFile.FieldType.int)) ∈ gw := gw_of (i := 505) (by decide +kernel) (by decide +kernel)
theorem wk_506 : (Jvm.Cond.methodLink "ListWeaveLaw" (89 : Nat) ({ cls := "ListWeaveModel", name := "of", desc := "(II)I" } : Jvm.MethodName)) ∈ gw := gw_of (i := 506) (by decide +kernel) (by decide +kernel)
theorem wk_507 : (Jvm.Cond.instanceMethod ({ cls := "ListWeaveModel", name := "of", desc := "(II)I" } : Jvm.MethodName)) ∈ gw := gw_of (i := 507) (by decide +kernel) (by decide +kernel)
theorem wk_508 : (Jvm.Cond.selects "ListWeaveModel" ({ cls := "ListWeaveModel", name := "of", desc := "(II)I" } : Jvm.MethodName) ({ cls := "ListWeaveModel", name := "of", desc := "(II)I" } : Jvm.MethodName)) ∈ gw := gw_of (i := 508) (by decide +kernel) (by decide +kernel)
theorem wk_509 : (Jvm.Cond.code ({ cls := "ListWeaveModel", name := "of", desc := "(II)I" } : Jvm.MethodName) prog_5_method_32_code (4 : Nat) (Option.some Jvm.ClassFile.FieldType.int)) ∈ gw := gw_of (i := 509) (by decide +kernel) (by decide +kernel)
theorem wk_510 : (Jvm.Cond.methodLink "ListWeaveModel" (111 : Nat) ({ cls := "ListWeaveModel", name := "counted", desc := "(II)I" } : Jvm.MethodName)) ∈ gw := gw_of (i := 510) (by decide +kernel) (by decide +kernel)
theorem wk_512 : (Jvm.Cond.instanceMethod ({ cls := "ListWeaveModel", name := "counted", desc := "(II)I" } : Jvm.MethodName)) ∈ gw := gw_of (i := 512) (by decide +kernel) (by decide +kernel)
theorem wk_513 : (Jvm.Cond.code ({ cls := "ListWeaveModel", name := "counted", desc := "(II)I" } : Jvm.MethodName) prog_5_method_31_code (5 : Nat) (Option.some Jvm.ClassFile.FieldType.int)) ∈ gw := gw_of (i := 513) (by decide +kernel) (by decide +kernel)
theorem wk_514 : (Jvm.Cond.methodLink "ListWeaveLaw" (94 : Nat) ({ cls := "ListWeaveModel", name := "sum", desc := "(II)J" } : Jvm.MethodName)) ∈ gw := gw_of (i := 514) (by decide +kernel) (by decide +kernel)
theorem wk_515 : (Jvm.Cond.instanceMethod ({ cls := "ListWeaveModel", name := "sum", desc := "(II)J" } : Jvm.MethodName)) ∈ gw := gw_of (i := 515) (by decide +kernel) (by decide +kernel)
theorem wk_516 : (Jvm.Cond.selects "ListWeaveModel" ({ cls := "ListWeaveModel", name := "sum", desc := "(II)J" } : Jvm.MethodName) ({ cls := "ListWeaveModel", name := "sum", desc := "(II)J" } : Jvm.MethodName)) ∈ gw := gw_of (i := 516) (by decide +kernel) (by decide +kernel)
theorem wk_517 : (Jvm.Cond.code ({ cls := "ListWeaveModel", name := "sum", desc := "(II)J" } : Jvm.MethodName) prog_5_method_33_code (7 : Nat) (Option.some Jvm.ClassFile.FieldType.long)) ∈ gw := gw_of (i := 517) (by decide +kernel) (by decide +kernel)
theorem wk_518 : (Jvm.Cond.methodLink "ListWeaveLaw" (98 : Nat) ({ cls := "ListWeaveModel", name := "look", desc := "(I)I" } : Jvm.MethodName)) ∈ gw := gw_of (i := 518) (by decide +kernel) (by decide +kernel)
theorem wk_519 : (Jvm.Cond.instanceMethod ({ cls := "ListWeaveModel", name := "look", desc := "(I)I" } : Jvm.MethodName)) ∈ gw := gw_of (i := 519) (by decide +kernel) (by decide +kernel)
theorem wk_520 : (Jvm.Cond.selects "ListWeaveModel" ({ cls := "ListWeaveModel", name := "look", desc := "(I)I" } : Jvm.MethodName) ({ cls := "ListWeaveModel", name := "look", desc := "(I)I" } : Jvm.MethodName)) ∈ gw := gw_of (i := 520) (by decide +kernel) (by decide +kernel)
theorem wk_521 : (Jvm.Cond.code ({ cls := "ListWeaveModel", name := "look", desc := "(I)I" } : Jvm.MethodName) prog_5_method_36_code (2 : Nat) (Option.some Jvm.ClassFile.FieldType.int)) ∈ gw := gw_of (i := 521) (by decide +kernel) (by decide +kernel)
theorem wk_522 : (Jvm.Cond.methodLink "ListWeaveModel" (114 : Nat) ({ cls := "ListWeaveModel", name := "greatest", desc := "()I" } : Jvm.MethodName)) ∈ gw := gw_of (i := 522) (by decide +kernel) (by decide +kernel)
theorem wk_524 : (Jvm.Cond.instanceMethod ({ cls := "ListWeaveModel", name := "greatest", desc := "()I" } : Jvm.MethodName)) ∈ gw := gw_of (i := 524) (by decide +kernel) (by decide +kernel)
theorem wk_525 : (Jvm.Cond.code ({ cls := "ListWeaveModel", name := "greatest", desc := "()I" } : Jvm.MethodName) prog_5_method_35_code (3 : Nat) (Option.some Jvm.ClassFile.FieldType.int)) ∈ gw := gw_of (i := 525) (by decide +kernel) (by decide +kernel)
theorem wk_526 : (Jvm.Cond.methodLink "ListWeaveModel" (117 : Nat) ({ cls := "ListWeaveModel", name := "deepest", desc := "()I" } : Jvm.MethodName)) ∈ gw := gw_of (i := 526) (by decide +kernel) (by decide +kernel)
theorem wk_528 : (Jvm.Cond.instanceMethod ({ cls := "ListWeaveModel", name := "deepest", desc := "()I" } : Jvm.MethodName)) ∈ gw := gw_of (i := 528) (by decide +kernel) (by decide +kernel)
theorem wk_529 : (Jvm.Cond.code ({ cls := "ListWeaveModel", name := "deepest", desc := "()I" } : Jvm.MethodName) prog_5_method_34_code (5 : Nat) (Option.some Jvm.ClassFile.FieldType.int)) ∈ gw := gw_of (i := 529) (by decide +kernel) (by decide +kernel)
theorem wk_530 : (Jvm.Cond.constantLong "ListWeaveLaw" (44 : Nat) (4294967295 : Int64)) ∈ gw := gw_of (i := 530) (by decide +kernel) (by decide +kernel)
theorem wk_531 : (Jvm.Cond.arrayClass Jvm.ClassFile.FieldType.long) ∈ gw := gw_of (i := 531) (by decide +kernel) (by decide +kernel)
theorem wp_0 : Cond.selects "ListWeave$UsedIds" ⟨"ListWeave$UsedIds", "forgetAll", "()V"⟩ ⟨"ListWeave$UsedIds", "forgetAll", "()V"⟩ ∈ gw := gw_pr (i := 0) (q := (⟨"ListWeave$UsedIds", "forgetAll", "()V"⟩, 2)) (by decide +kernel)
theorem wp_1 : Cond.selects "ListWeave" ⟨"ListWeave", "elementOrBeginning", "(I)LListWeave$Element;"⟩ ⟨"ListWeave", "elementOrBeginning", "(I)LListWeave$Element;"⟩ ∈ gw := gw_pr (i := 1) (q := (⟨"ListWeave", "elementOrBeginning", "(I)LListWeave$Element;"⟩, 5)) (by decide +kernel)
theorem wp_2 : Cond.selects "ListWeave" ⟨"ListWeave", "elementOf", "(I)LListWeave$Element;"⟩ ⟨"ListWeave", "elementOf", "(I)LListWeave$Element;"⟩ ∈ gw := gw_pr (i := 2) (q := (⟨"ListWeave", "elementOf", "(I)LListWeave$Element;"⟩, 5)) (by decide +kernel)
theorem wp_3 : Cond.selects "ListWeave" ⟨"ListWeave", "rowOf", "(I)I"⟩ ⟨"ListWeave", "rowOf", "(I)I"⟩ ∈ gw := gw_pr (i := 3) (q := (⟨"ListWeave", "rowOf", "(I)I"⟩, 5)) (by decide +kernel)
theorem wp_4 : Cond.selects "ListWeave" ⟨"ListWeave", "isFree", "(I)Z"⟩ ⟨"ListWeave", "isFree", "(I)Z"⟩ ∈ gw := gw_pr (i := 4) (q := (⟨"ListWeave", "isFree", "(I)Z"⟩, 5)) (by decide +kernel)
theorem wp_5 : Cond.selects "ListWeave$UsedIds" ⟨"ListWeave$UsedIds", "has", "(I)Z"⟩ ⟨"ListWeave$UsedIds", "has", "(I)Z"⟩ ∈ gw := gw_pr (i := 5) (q := (⟨"ListWeave$UsedIds", "has", "(I)Z"⟩, 2)) (by decide +kernel)
theorem wp_6 : Cond.selects "ListWeave$UsedIds" ⟨"ListWeave$UsedIds", "firstNotBelow", "(I)I"⟩ ⟨"ListWeave$UsedIds", "firstNotBelow", "(I)I"⟩ ∈ gw := gw_pr (i := 6) (q := (⟨"ListWeave$UsedIds", "firstNotBelow", "(I)I"⟩, 2)) (by decide +kernel)
theorem wp_7 : Cond.selects "ListWeave" ⟨"ListWeave", "weave", "(ILListWeave$Element;II)LListWeave$Element;"⟩ ⟨"ListWeave", "weave", "(ILListWeave$Element;II)LListWeave$Element;"⟩ ∈ gw := gw_pr (i := 7) (q := (⟨"ListWeave", "weave", "(ILListWeave$Element;II)LListWeave$Element;"⟩, 5)) (by decide +kernel)
theorem wp_8 : Cond.selects "ListWeave" ⟨"ListWeave", "rowForNew", "(ILListWeave$Element;)I"⟩ ⟨"ListWeave", "rowForNew", "(ILListWeave$Element;)I"⟩ ∈ gw := gw_pr (i := 8) (q := (⟨"ListWeave", "rowForNew", "(ILListWeave$Element;)I"⟩, 5)) (by decide +kernel)
theorem wp_9 : Cond.selects "ListWeave$Element" ⟨"ListWeave$Element", "offer", "(III)V"⟩ ⟨"ListWeave$Element", "offer", "(III)V"⟩ ∈ gw := gw_pr (i := 9) (q := (⟨"ListWeave$Element", "offer", "(III)V"⟩, 9)) (by decide +kernel)
theorem wp_10 : Cond.selects "ListWeave$UsedIds" ⟨"ListWeave$UsedIds", "note", "(I)V"⟩ ⟨"ListWeave$UsedIds", "note", "(I)V"⟩ ∈ gw := gw_pr (i := 10) (q := (⟨"ListWeave$UsedIds", "note", "(I)V"⟩, 2)) (by decide +kernel)
theorem wp_11 : Cond.selects "ListWeave" ⟨"ListWeave", "areFree", "(II)Z"⟩ ⟨"ListWeave", "areFree", "(II)Z"⟩ ∈ gw := gw_pr (i := 11) (q := (⟨"ListWeave", "areFree", "(II)Z"⟩, 5)) (by decide +kernel)
theorem wp_12 : Cond.selects "ListWeave" ⟨"ListWeave", "mayChange", "(II)Z"⟩ ⟨"ListWeave", "mayChange", "(II)Z"⟩ ∈ gw := gw_pr (i := 12) (q := (⟨"ListWeave", "mayChange", "(II)Z"⟩, 5)) (by decide +kernel)
theorem wp_13 : Cond.selects "ListWeave" ⟨"ListWeave", "countChange", "(I)V"⟩ ⟨"ListWeave", "countChange", "(I)V"⟩ ∈ gw := gw_pr (i := 13) (q := (⟨"ListWeave", "countChange", "(I)V"⟩, 5)) (by decide +kernel)
theorem wp_14 : Cond.selects "ListWeave" ⟨"ListWeave", "visibleUpTo", "(I)I"⟩ ⟨"ListWeave", "visibleUpTo", "(I)I"⟩ ∈ gw := gw_pr (i := 14) (q := (⟨"ListWeave", "visibleUpTo", "(I)I"⟩, 5)) (by decide +kernel)
theorem wp_15 : Cond.selects "ListWeave$Element" ⟨"ListWeave$Element", "isVisible", "()Z"⟩ ⟨"ListWeave$Element", "isVisible", "()Z"⟩ ∈ gw := gw_pr (i := 15) (q := (⟨"ListWeave$Element", "isVisible", "()Z"⟩, 9)) (by decide +kernel)
theorem wp_16 : Cond.selects "ListWeave$UsedIds" ⟨"ListWeave$UsedIds", "greatest", "()I"⟩ ⟨"ListWeave$UsedIds", "greatest", "()I"⟩ ∈ gw := gw_pr (i := 16) (q := (⟨"ListWeave$UsedIds", "greatest", "()I"⟩, 2)) (by decide +kernel)
theorem wp_17 : Cond.selects "ListWeave" ⟨"ListWeave", "longestWay", "()I"⟩ ⟨"ListWeave", "longestWay", "()I"⟩ ∈ gw := gw_pr (i := 17) (q := (⟨"ListWeave", "longestWay", "()I"⟩, 5)) (by decide +kernel)
theorem wp_18 : Cond.selects "ListWeave" ⟨"ListWeave", "elementAt", "(I)LListWeave$Element;"⟩ ⟨"ListWeave", "elementAt", "(I)LListWeave$Element;"⟩ ∈ gw := gw_pr (i := 18) (q := (⟨"ListWeave", "elementAt", "(I)LListWeave$Element;"⟩, 5)) (by decide +kernel)
theorem wp_19 : Cond.selects "java/lang/Throwable" ⟨"java/lang/Throwable", "fillInStackTrace", "(I)Ljava/lang/Throwable;"⟩ ⟨"java/lang/Throwable", "fillInStackTrace", "(I)Ljava/lang/Throwable;"⟩ ∈ gw := gw_pr (i := 19) (q := (⟨"java/lang/Throwable", "fillInStackTrace", "(I)Ljava/lang/Throwable;"⟩, 6)) (by decide +kernel)
theorem wp_20 : Cond.selects "ListWeaveModel" ⟨"ListWeaveModel", "canInsert", "(II)Z"⟩ ⟨"ListWeaveModel", "canInsert", "(II)Z"⟩ ∈ gw := gw_pr (i := 20) (q := (⟨"ListWeaveModel", "canInsert", "(II)Z"⟩, 13)) (by decide +kernel)
theorem wp_21 : Cond.selects "ListWeaveModel" ⟨"ListWeaveModel", "isNew", "(I)Z"⟩ ⟨"ListWeaveModel", "isNew", "(I)Z"⟩ ∈ gw := gw_pr (i := 21) (q := (⟨"ListWeaveModel", "isNew", "(I)Z"⟩, 13)) (by decide +kernel)
theorem wp_22 : Cond.selects "ListWeaveModel" ⟨"ListWeaveModel", "placeOf", "(I)I"⟩ ⟨"ListWeaveModel", "placeOf", "(I)I"⟩ ∈ gw := gw_pr (i := 22) (q := (⟨"ListWeaveModel", "placeOf", "(I)I"⟩, 13)) (by decide +kernel)
theorem wp_23 : Cond.selects "ListWeaveModel" ⟨"ListWeaveModel", "keep", "(IIII)V"⟩ ⟨"ListWeaveModel", "keep", "(IIII)V"⟩ ∈ gw := gw_pr (i := 23) (q := (⟨"ListWeaveModel", "keep", "(IIII)V"⟩, 13)) (by decide +kernel)
theorem wp_24 : Cond.selects "ListWeaveModel" ⟨"ListWeaveModel", "does", "(IIII)Z"⟩ ⟨"ListWeaveModel", "does", "(IIII)Z"⟩ ∈ gw := gw_pr (i := 24) (q := (⟨"ListWeaveModel", "does", "(IIII)Z"⟩, 13)) (by decide +kernel)
theorem wp_25 : Cond.selects "ListWeaveModel" ⟨"ListWeaveModel", "sizeOf", "()I"⟩ ⟨"ListWeaveModel", "sizeOf", "()I"⟩ ∈ gw := gw_pr (i := 25) (q := (⟨"ListWeaveModel", "sizeOf", "()I"⟩, 13)) (by decide +kernel)
theorem wp_26 : Cond.selects "ListWeaveModel" ⟨"ListWeaveModel", "isRemoved", "(I)Z"⟩ ⟨"ListWeaveModel", "isRemoved", "(I)Z"⟩ ∈ gw := gw_pr (i := 26) (q := (⟨"ListWeaveModel", "isRemoved", "(I)Z"⟩, 13)) (by decide +kernel)
theorem wp_27 : Cond.selects "ListWeaveModel" ⟨"ListWeaveModel", "elementAt", "(I)I"⟩ ⟨"ListWeaveModel", "elementAt", "(I)I"⟩ ∈ gw := gw_pr (i := 27) (q := (⟨"ListWeaveModel", "elementAt", "(I)I"⟩, 13)) (by decide +kernel)
theorem wp_28 : Cond.selects "ListWeaveModel" ⟨"ListWeaveModel", "weave", "()V"⟩ ⟨"ListWeaveModel", "weave", "()V"⟩ ∈ gw := gw_pr (i := 28) (q := (⟨"ListWeaveModel", "weave", "()V"⟩, 13)) (by decide +kernel)
theorem wp_29 : Cond.selects "ListWeaveModel" ⟨"ListWeaveModel", "push", "(II)I"⟩ ⟨"ListWeaveModel", "push", "(II)I"⟩ ∈ gw := gw_pr (i := 29) (q := (⟨"ListWeaveModel", "push", "(II)I"⟩, 13)) (by decide +kernel)
theorem wp_30 : Cond.selects "ListWeaveModel" ⟨"ListWeaveModel", "kindOf", "(I)I"⟩ ⟨"ListWeaveModel", "kindOf", "(I)I"⟩ ∈ gw := gw_pr (i := 30) (q := (⟨"ListWeaveModel", "kindOf", "(I)I"⟩, 13)) (by decide +kernel)
theorem wp_31 : Cond.selects "ListWeaveModel" ⟨"ListWeaveModel", "standing", "(I)I"⟩ ⟨"ListWeaveModel", "standing", "(I)I"⟩ ∈ gw := gw_pr (i := 31) (q := (⟨"ListWeaveModel", "standing", "(I)I"⟩, 13)) (by decide +kernel)
theorem wp_32 : Cond.selects "ListWeaveModel" ⟨"ListWeaveModel", "valueOf", "(I)I"⟩ ⟨"ListWeaveModel", "valueOf", "(I)I"⟩ ∈ gw := gw_pr (i := 32) (q := (⟨"ListWeaveModel", "valueOf", "(I)I"⟩, 13)) (by decide +kernel)
theorem wp_33 : Cond.selects "ListWeaveModel" ⟨"ListWeaveModel", "idStanding", "(I)I"⟩ ⟨"ListWeaveModel", "idStanding", "(I)I"⟩ ∈ gw := gw_pr (i := 33) (q := (⟨"ListWeaveModel", "idStanding", "(I)I"⟩, 13)) (by decide +kernel)
theorem wp_34 : Cond.selects "ListWeaveModel" ⟨"ListWeaveModel", "aheadOf", "(I)I"⟩ ⟨"ListWeaveModel", "aheadOf", "(I)I"⟩ ∈ gw := gw_pr (i := 34) (q := (⟨"ListWeaveModel", "aheadOf", "(I)I"⟩, 13)) (by decide +kernel)
theorem wp_35 : Cond.selects "ListWeaveModel" ⟨"ListWeaveModel", "rowOf", "(I)I"⟩ ⟨"ListWeaveModel", "rowOf", "(I)I"⟩ ∈ gw := gw_pr (i := 35) (q := (⟨"ListWeaveModel", "rowOf", "(I)I"⟩, 13)) (by decide +kernel)
theorem wp_36 : Cond.selects "ListWeaveModel" ⟨"ListWeaveModel", "counted", "(II)I"⟩ ⟨"ListWeaveModel", "counted", "(II)I"⟩ ∈ gw := gw_pr (i := 36) (q := (⟨"ListWeaveModel", "counted", "(II)I"⟩, 13)) (by decide +kernel)
theorem wp_37 : Cond.selects "ListWeaveModel" ⟨"ListWeaveModel", "greatest", "()I"⟩ ⟨"ListWeaveModel", "greatest", "()I"⟩ ∈ gw := gw_pr (i := 37) (q := (⟨"ListWeaveModel", "greatest", "()I"⟩, 13)) (by decide +kernel)
theorem wp_38 : Cond.selects "ListWeaveModel" ⟨"ListWeaveModel", "deepest", "()I"⟩ ⟨"ListWeaveModel", "deepest", "()I"⟩ ∈ gw := gw_pr (i := 38) (q := (⟨"ListWeaveModel", "deepest", "()I"⟩, 13)) (by decide +kernel)
theorem inX0 : ∀ w ∈ u_ws RX0 TX0 9, w ∈ gw := by decide +kernel
theorem inX1 : ∀ w ∈ u_ws RX1 TX1 2, w ∈ gw := by decide +kernel
theorem inX2 : ∀ w ∈ u_ws RX2 TX2 5, w ∈ gw := by decide +kernel
theorem inX3 : ∀ w ∈ u_ws RX3 TX3 13, w ∈ gw := by decide +kernel
/-- a method's words: its code first, then the good words -/
abbrev gws (y : MethodName) (b : ByteArray) (n : Nat) (r : Option FieldType) : List Cond := Cond.code y b n r :: gw
theorem gw_self {y : MethodName} {b : ByteArray} {n : Nat} {r : Option FieldType} (h : Cond.code y b n r ∈ gw) : GoodIn gw (gws y b n r) := fun w hw => by
  have h1 : w ∈ gw := by
    rcases List.mem_cons.mp hw with e | e
    · rw [e]; exact h
    · exact e
  exact ⟨h1, good_of_word (gw_good w h1)⟩
theorem gw_V {own C : String} {idx : Nat} {y : MethodName} {b : ByteArray} {n : Nat} {r : Option FieldType} (h1 : Cond.methodLink own idx y ∈ gw) (h2 : Cond.instanceMethod y ∈ gw) (h3 : Cond.selects C y y ∈ gw) (h4 : Cond.initialized C ∈ gw) (h5 : Cond.code y b n r ∈ gw) : GoodIn gw (wsV own idx C y (gws y b n r)) := fun w hw => by
  have h9 : w ∈ gw := by
    simp only [wsV, List.cons_append, List.nil_append, List.mem_cons] at hw
    rcases hw with e | e | e | e | e | e
    · rw [e]; exact h1
    · rw [e]; exact h2
    · rw [e]; exact h3
    · rw [e]; exact h4
    · rw [e]; exact h5
    · exact e
  exact ⟨h9, good_of_word (gw_good w h9)⟩
theorem gw_S {own : String} {idx : Nat} {y : MethodName} {b : ByteArray} {n : Nat} {r : Option FieldType} (h1 : Cond.methodLink own idx y ∈ gw) (h2 : Cond.static y ∈ gw) (h4 : Cond.initialized own ∈ gw) (h5 : Cond.code y b n r ∈ gw) : GoodIn gw (wsS own idx y (gws y b n r)) := fun w hw => by
  have h9 : w ∈ gw := by
    simp only [wsS, List.cons_append, List.nil_append, List.mem_cons] at hw
    rcases hw with e | e | e | e | e
    · rw [e]; exact h1
    · rw [e]; exact h2
    · rw [e]; exact h4
    · rw [e]; exact h5
    · exact e
  exact ⟨h9, good_of_word (gw_good w h9)⟩
/-- the words of private members of nest mates -/
def nw_ : List Cond := [(Jvm.Cond.methodLinkNest "ListWeave" (9 : Nat) ({ cls := "ListWeave$UsedIds", name := "<init>", desc := "()V" } : Jvm.MethodName) "ListWeave"), (Jvm.Cond.methodLinkNest "ListWeave" (18 : Nat) ({ cls := "ListWeave$Element", name := "<init>", desc := "(III)V" } : Jvm.MethodName) "ListWeave"), (Jvm.Cond.fieldLinkNest "ListWeave" (98 : Nat) "ListWeave$Element" "id" "I" "ListWeave"), (Jvm.Cond.fieldLinkNest "ListWeave" (128 : Nat) "ListWeave$Element" "behind" "I" "ListWeave"), (Jvm.Cond.fieldLinkNest "ListWeave" (151 : Nat) "ListWeave$Element" "way" "I" "ListWeave"), (Jvm.Cond.fieldLinkNest "ListWeave" (39 : Nat) "ListWeave$Element" "followers" "I" "ListWeave"), (Jvm.Cond.fieldLinkNest "ListWeave" (75 : Nat) "ListWeave$Element" "sets" "I" "ListWeave"), (Jvm.Cond.fieldLinkNest "ListWeave" (81 : Nat) "ListWeave$Element" "removes" "I" "ListWeave"), (Jvm.Cond.fieldLinkNest "ListWeave" (107 : Nat) "ListWeave$Element" "standing" "I" "ListWeave"), (Jvm.Cond.fieldLinkNest "ListWeave" (101 : Nat) "ListWeave$Element" "kind" "I" "ListWeave"), (Jvm.Cond.fieldLinkNest "ListWeave" (104 : Nat) "ListWeave$Element" "value" "I" "ListWeave"), (Jvm.Cond.methodLinkNest "ListWeave" (36 : Nat) ({ cls := "ListWeave$UsedIds", name := "forgetAll", desc := "()V" } : Jvm.MethodName) "ListWeave"), (Jvm.Cond.methodLinkNest "ListWeave" (139 : Nat) ({ cls := "ListWeave$UsedIds", name := "has", desc := "(I)Z" } : Jvm.MethodName) "ListWeave"), (Jvm.Cond.methodLinkNest "ListWeave" (78 : Nat) ({ cls := "ListWeave$Element", name := "offer", desc := "(III)V" } : Jvm.MethodName) "ListWeave"), (Jvm.Cond.methodLinkNest "ListWeave" (142 : Nat) ({ cls := "ListWeave$UsedIds", name := "note", desc := "(I)V" } : Jvm.MethodName) "ListWeave"), (Jvm.Cond.methodLinkNest "ListWeave" (115 : Nat) ({ cls := "ListWeave$Element", name := "isVisible", desc := "()Z" } : Jvm.MethodName) "ListWeave"), (Jvm.Cond.methodLinkNest "ListWeave" (131 : Nat) ({ cls := "ListWeave$UsedIds", name := "greatest", desc := "()I" } : Jvm.MethodName) "ListWeave")]
def NW (U : State) : Prop := ∀ w ∈ nw_, va_Nw w U
theorem nw_on : ∀ w ∈ nw_, w.onTables = true := by decide +kernel
theorem NW.same {u U : State} (h : u.vm = U.vm) (hZ : NW u) : NW U := fun w hw => (hZ w hw).same (nw_on w hw) h
theorem NW.call {U : State} {g : JFrame} {mk : MethodId} {a : Array Value} (h : NW U) : NW (U.calling g mk a) := NW.same (u := U) rfl h
theorem NW.warm {s U : State} (hW : s.WarmedH U.vm) (hZ : NW s) : NW U := List.forall_mem_cons.mpr ⟨va_Nw.warmM hW (hZ _ (List.mem_of_getElem? (i := 0) rfl)), List.forall_mem_cons.mpr ⟨va_Nw.warmM hW (hZ _ (List.mem_of_getElem? (i := 1) rfl)), List.forall_mem_cons.mpr ⟨va_Nw.warmF hW (hZ _ (List.mem_of_getElem? (i := 2) rfl)), List.forall_mem_cons.mpr ⟨va_Nw.warmF hW (hZ _ (List.mem_of_getElem? (i := 3) rfl)), List.forall_mem_cons.mpr ⟨va_Nw.warmF hW (hZ _ (List.mem_of_getElem? (i := 4) rfl)), List.forall_mem_cons.mpr ⟨va_Nw.warmF hW (hZ _ (List.mem_of_getElem? (i := 5) rfl)), List.forall_mem_cons.mpr ⟨va_Nw.warmF hW (hZ _ (List.mem_of_getElem? (i := 6) rfl)), List.forall_mem_cons.mpr ⟨va_Nw.warmF hW (hZ _ (List.mem_of_getElem? (i := 7) rfl)), List.forall_mem_cons.mpr ⟨va_Nw.warmF hW (hZ _ (List.mem_of_getElem? (i := 8) rfl)), List.forall_mem_cons.mpr ⟨va_Nw.warmF hW (hZ _ (List.mem_of_getElem? (i := 9) rfl)), List.forall_mem_cons.mpr ⟨va_Nw.warmF hW (hZ _ (List.mem_of_getElem? (i := 10) rfl)), List.forall_mem_cons.mpr ⟨va_Nw.warmM hW (hZ _ (List.mem_of_getElem? (i := 11) rfl)), List.forall_mem_cons.mpr ⟨va_Nw.warmM hW (hZ _ (List.mem_of_getElem? (i := 12) rfl)), List.forall_mem_cons.mpr ⟨va_Nw.warmM hW (hZ _ (List.mem_of_getElem? (i := 13) rfl)), List.forall_mem_cons.mpr ⟨va_Nw.warmM hW (hZ _ (List.mem_of_getElem? (i := 14) rfl)), List.forall_mem_cons.mpr ⟨va_Nw.warmM hW (hZ _ (List.mem_of_getElem? (i := 15) rfl)), List.forall_mem_cons.mpr ⟨va_Nw.warmM hW (hZ _ (List.mem_of_getElem? (i := 16) rfl)), fun _ h => absurd h List.not_mem_nil⟩⟩⟩⟩⟩⟩⟩⟩⟩⟩⟩⟩⟩⟩⟩⟩⟩
theorem nk_22 {U : State} (h : NW U) : va_Nw (Jvm.Cond.methodLinkNest "ListWeave" (9 : Nat) ({ cls := "ListWeave$UsedIds", name := "<init>", desc := "()V" } : Jvm.MethodName) "ListWeave") U := h _ (List.mem_of_getElem? (i := 0) rfl)
theorem nk_36 {U : State} (h : NW U) : va_Nw (Jvm.Cond.methodLinkNest "ListWeave" (18 : Nat) ({ cls := "ListWeave$Element", name := "<init>", desc := "(III)V" } : Jvm.MethodName) "ListWeave") U := h _ (List.mem_of_getElem? (i := 1) rfl)
theorem nk_41 {U : State} (h : NW U) : va_Nw (Jvm.Cond.fieldLinkNest "ListWeave" (98 : Nat) "ListWeave$Element" "id" "I" "ListWeave") U := h _ (List.mem_of_getElem? (i := 2) rfl)
theorem nk_43 {U : State} (h : NW U) : va_Nw (Jvm.Cond.fieldLinkNest "ListWeave" (128 : Nat) "ListWeave$Element" "behind" "I" "ListWeave") U := h _ (List.mem_of_getElem? (i := 3) rfl)
theorem nk_45 {U : State} (h : NW U) : va_Nw (Jvm.Cond.fieldLinkNest "ListWeave" (151 : Nat) "ListWeave$Element" "way" "I" "ListWeave") U := h _ (List.mem_of_getElem? (i := 4) rfl)
theorem nk_47 {U : State} (h : NW U) : va_Nw (Jvm.Cond.fieldLinkNest "ListWeave" (39 : Nat) "ListWeave$Element" "followers" "I" "ListWeave") U := h _ (List.mem_of_getElem? (i := 5) rfl)
theorem nk_49 {U : State} (h : NW U) : va_Nw (Jvm.Cond.fieldLinkNest "ListWeave" (75 : Nat) "ListWeave$Element" "sets" "I" "ListWeave") U := h _ (List.mem_of_getElem? (i := 6) rfl)
theorem nk_51 {U : State} (h : NW U) : va_Nw (Jvm.Cond.fieldLinkNest "ListWeave" (81 : Nat) "ListWeave$Element" "removes" "I" "ListWeave") U := h _ (List.mem_of_getElem? (i := 7) rfl)
theorem nk_53 {U : State} (h : NW U) : va_Nw (Jvm.Cond.fieldLinkNest "ListWeave" (107 : Nat) "ListWeave$Element" "standing" "I" "ListWeave") U := h _ (List.mem_of_getElem? (i := 8) rfl)
theorem nk_55 {U : State} (h : NW U) : va_Nw (Jvm.Cond.fieldLinkNest "ListWeave" (101 : Nat) "ListWeave$Element" "kind" "I" "ListWeave") U := h _ (List.mem_of_getElem? (i := 9) rfl)
theorem nk_57 {U : State} (h : NW U) : va_Nw (Jvm.Cond.fieldLinkNest "ListWeave" (104 : Nat) "ListWeave$Element" "value" "I" "ListWeave") U := h _ (List.mem_of_getElem? (i := 10) rfl)
theorem nk_98 {U : State} (h : NW U) : va_Nw (Jvm.Cond.methodLinkNest "ListWeave" (36 : Nat) ({ cls := "ListWeave$UsedIds", name := "forgetAll", desc := "()V" } : Jvm.MethodName) "ListWeave") U := h _ (List.mem_of_getElem? (i := 11) rfl)
theorem nk_123 {U : State} (h : NW U) : va_Nw (Jvm.Cond.methodLinkNest "ListWeave" (139 : Nat) ({ cls := "ListWeave$UsedIds", name := "has", desc := "(I)Z" } : Jvm.MethodName) "ListWeave") U := h _ (List.mem_of_getElem? (i := 12) rfl)
theorem nk_142 {U : State} (h : NW U) : va_Nw (Jvm.Cond.methodLinkNest "ListWeave" (78 : Nat) ({ cls := "ListWeave$Element", name := "offer", desc := "(III)V" } : Jvm.MethodName) "ListWeave") U := h _ (List.mem_of_getElem? (i := 13) rfl)
theorem nk_146 {U : State} (h : NW U) : va_Nw (Jvm.Cond.methodLinkNest "ListWeave" (142 : Nat) ({ cls := "ListWeave$UsedIds", name := "note", desc := "(I)V" } : Jvm.MethodName) "ListWeave") U := h _ (List.mem_of_getElem? (i := 14) rfl)
theorem nk_189 {U : State} (h : NW U) : va_Nw (Jvm.Cond.methodLinkNest "ListWeave" (115 : Nat) ({ cls := "ListWeave$Element", name := "isVisible", desc := "()Z" } : Jvm.MethodName) "ListWeave") U := h _ (List.mem_of_getElem? (i := 15) rfl)
theorem nk_205 {U : State} (h : NW U) : va_Nw (Jvm.Cond.methodLinkNest "ListWeave" (131 : Nat) ({ cls := "ListWeave$UsedIds", name := "greatest", desc := "()I" } : Jvm.MethodName) "ListWeave") U := h _ (List.mem_of_getElem? (i := 16) rfl)
