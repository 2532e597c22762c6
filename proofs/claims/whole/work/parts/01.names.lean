/-- the words that every method gets beside its own code: the tables' good ones -/
def AW : List Cond := lw_tbl.filter goodWord
theorem AW_t {w : Cond} (i : Nat) (h : tables_1[i]? = some w) (g : goodWord w = true) : w ∈ AW := List.mem_filter.mpr ⟨List.mem_append_right _ (List.mem_of_getElem? h), g⟩
theorem AW_s {w : Cond} (i : Nat) (h : (k2_sels lw_privs)[i]? = some w) (g : goodWord w = true) : w ∈ AW := List.mem_filter.mpr ⟨List.mem_append_left _ (List.mem_of_getElem? h), g⟩
abbrev wA (y : MethodName) (c : ByteArray) (n : Nat) (r : Option FieldType) : List Cond := Cond.code y c n r :: AW
theorem AW_good {w : Cond} (h : w ∈ AW) : (w.onTables && w.keeps) = true ∨ ∃ ty, w = .arrayClass ty := good_of_word (List.mem_filter.mp h).2
theorem gA {y : MethodName} {c : ByteArray} {n : Nat} {r : Option FieldType} (h : Cond.code y c n r ∈ AW) : GoodIn AW (wA y c n r) := fun w hw => by
  rcases List.mem_cons.mp hw with e | e
  · rw [e]; exact ⟨h, AW_good h⟩
  · exact ⟨e, AW_good e⟩
theorem gV {own C : String} {idx : Nat} {y : MethodName} {c : ByteArray} {n : Nat} {r : Option FieldType} (h1 : Cond.methodLink own idx y ∈ AW) (h2 : Cond.instanceMethod y ∈ AW) (h3 : Cond.selects C y y ∈ AW) (h4 : Cond.initialized C ∈ AW) (h5 : Cond.code y c n r ∈ AW) : GoodIn AW (wsV own idx C y (wA y c n r)) := fun w hw => by
  unfold wsV at hw
  rcases List.mem_append.mp hw with e | e
  · simp only [List.mem_cons, List.not_mem_nil, or_false] at e
    rcases e with e | e | e | e <;> rw [e] <;> first | exact ⟨h1, AW_good h1⟩ | exact ⟨h2, AW_good h2⟩ | exact ⟨h3, AW_good h3⟩ | exact ⟨h4, AW_good h4⟩
  · exact gA h5 w e
theorem gS {own : String} {idx : Nat} {y : MethodName} {c : ByteArray} {n : Nat} {r : Option FieldType} (h1 : Cond.methodLink own idx y ∈ AW) (h2 : Cond.static y ∈ AW) (h4 : Cond.initialized y.cls ∈ AW) (h5 : Cond.code y c n r ∈ AW) : GoodIn AW (va_wsS own idx y (wA y c n r)) := fun w hw => by
  unfold va_wsS at hw
  rcases List.mem_append.mp hw with e | e
  · simp only [List.mem_cons, List.not_mem_nil, or_false] at e
    rcases e with e | e | e <;> rw [e] <;> first | exact ⟨h1, AW_good h1⟩ | exact ⟨h2, AW_good h2⟩ | exact ⟨h4, AW_good h4⟩
  · exact gA h5 w e
def NWs : List (String × Nat × MethodName × String) := [("DemandTerms", 11, ⟨"DemandTerms$Names", "<init>", "()V"⟩, "DemandTerms"), ("DemandTerms", 18, ⟨"DemandTerms$TermTable", "<init>", "()V"⟩, "DemandTerms"), ("DemandTerms", 25, ⟨"DemandTerms$NeedRows", "<init>", "()V"⟩, "DemandTerms"), ("DemandTerms", 32, ⟨"DemandTerms$Clashes", "<init>", "()V"⟩, "DemandTerms"), ("DemandTerms", 43, ⟨"DemandTerms$Page", "<init>", "()V"⟩, "DemandTerms"), ("DemandTerms$Names", 35, ⟨"DemandTerms", "isWanted", "(J)Z"⟩, "DemandTerms"), ("DemandTerms$Names", 25, ⟨"DemandTerms", "hasVersion", "(JI)Z"⟩, "DemandTerms"), ("DemandTerms$Page", 21, ⟨"DemandTerms", "hasVersion", "(JI)Z"⟩, "DemandTerms")]
theorem NWs_in : ∀ q ∈ NWs, Cond.methodLinkNest q.1 q.2.1 q.2.2.1 q.2.2.2 ∈ tables_1 := by decide +kernel
def T_D : u_T := fun k => match k with
  | 0 => ("DemandTerms", "names", "LDemandTerms$Names;", true)
  | 1 => ("DemandTerms", "table", "LDemandTerms$TermTable;", true)
  | 2 => ("DemandTerms", "rows", "LDemandTerms$NeedRows;", true)
  | 3 => ("DemandTerms", "clashes", "LDemandTerms$Clashes;", true)
  | 4 => ("DemandTerms", "choice", "[J", true)
  | _ => ("DemandTerms", "page", "LDemandTerms$Page;", true)
def ty_D : Nat → FieldType := fun k => match k with
  | 0 => .object "DemandTerms$Names"
  | 1 => .object "DemandTerms$TermTable"
  | 2 => .object "DemandTerms$NeedRows"
  | 3 => .object "DemandTerms$Clashes"
  | 4 => .array .long
  | _ => .object "DemandTerms$Page"
theorem nm_D : ∀ a, a < 6 → ∀ b, b < 6 → a ≠ b → (T_D a).2.1 ≠ (T_D b).2.1 := by decide +kernel
theorem ty_D_ok : ∀ k, k < 6 → parseFieldDescriptor (T_D k).2.2.1 = some (ty_D k) := by decide +kernel
theorem hi_D_0 : ∀ w ∈ u_ws "DemandTerms" T_D 6, w ∈ tables_1 ∧ goodWord w = true := by decide +kernel
theorem hi_D : ∀ w ∈ u_ws "DemandTerms" T_D 6, w ∈ AW := fun w h => List.mem_filter.mpr ⟨List.mem_append_right _ (hi_D_0 w h).1, (hi_D_0 w h).2⟩
def T_N : u_T := fun k => match k with
  | 0 => ("DemandTerms$Names", "places", "[J", true)
  | _ => ("DemandTerms$Names", "size", "I", false)
def ty_N : Nat → FieldType := fun k => match k with
  | 0 => .array .long
  | _ => .int
theorem nm_N : ∀ a, a < 2 → ∀ b, b < 2 → a ≠ b → (T_N a).2.1 ≠ (T_N b).2.1 := by decide +kernel
theorem ty_N_ok : ∀ k, k < 2 → parseFieldDescriptor (T_N k).2.2.1 = some (ty_N k) := by decide +kernel
theorem hi_N_0 : ∀ w ∈ u_ws "DemandTerms$Names" T_N 2, w ∈ tables_1 ∧ goodWord w = true := by decide +kernel
theorem hi_N : ∀ w ∈ u_ws "DemandTerms$Names" T_N 2, w ∈ AW := fun w h => List.mem_filter.mpr ⟨List.mem_append_right _ (hi_N_0 w h).1, (hi_N_0 w h).2⟩
def T_T : u_T := fun k => match k with
  | 0 => ("DemandTerms$TermTable", "name", "[I", true)
  | 1 => ("DemandTerms$TermTable", "places", "[J", true)
  | _ => ("DemandTerms$TermTable", "size", "I", false)
def ty_T : Nat → FieldType := fun k => match k with
  | 0 => .array .int
  | 1 => .array .long
  | _ => .int
theorem nm_T : ∀ a, a < 3 → ∀ b, b < 3 → a ≠ b → (T_T a).2.1 ≠ (T_T b).2.1 := by decide +kernel
theorem ty_T_ok : ∀ k, k < 3 → parseFieldDescriptor (T_T k).2.2.1 = some (ty_T k) := by decide +kernel
theorem hi_T_0 : ∀ w ∈ u_ws "DemandTerms$TermTable" T_T 3, w ∈ tables_1 ∧ goodWord w = true := by decide +kernel
theorem hi_T : ∀ w ∈ u_ws "DemandTerms$TermTable" T_T 3, w ∈ AW := fun w h => List.mem_filter.mpr ⟨List.mem_append_right _ (hi_T_0 w h).1, (hi_T_0 w h).2⟩
def T_R : u_T := fun k => match k with
  | 0 => ("DemandTerms$NeedRows", "name", "[I", true)
  | 1 => ("DemandTerms$NeedRows", "version", "[I", true)
  | 2 => ("DemandTerms$NeedRows", "other", "[I", true)
  | 3 => ("DemandTerms$NeedRows", "needed", "[J", true)
  | 4 => ("DemandTerms$NeedRows", "kind", "[I", true)
  | _ => ("DemandTerms$NeedRows", "size", "I", false)
def ty_R : Nat → FieldType := fun k => match k with
  | 0 => .array .int
  | 1 => .array .int
  | 2 => .array .int
  | 3 => .array .long
  | 4 => .array .int
  | _ => .int
theorem nm_R : ∀ a, a < 6 → ∀ b, b < 6 → a ≠ b → (T_R a).2.1 ≠ (T_R b).2.1 := by decide +kernel
theorem ty_R_ok : ∀ k, k < 6 → parseFieldDescriptor (T_R k).2.2.1 = some (ty_R k) := by decide +kernel
theorem hi_R_0 : ∀ w ∈ u_ws "DemandTerms$NeedRows" T_R 6, w ∈ tables_1 ∧ goodWord w = true := by decide +kernel
theorem hi_R : ∀ w ∈ u_ws "DemandTerms$NeedRows" T_R 6, w ∈ AW := fun w h => List.mem_filter.mpr ⟨List.mem_append_right _ (hi_R_0 w h).1, (hi_R_0 w h).2⟩
def T_C : u_T := fun k => match k with
  | 0 => ("DemandTerms$Clashes", "held", "[I", true)
  | 1 => ("DemandTerms$Clashes", "places", "[J", true)
  | 2 => ("DemandTerms$Clashes", "source", "[I", true)
  | 3 => ("DemandTerms$Clashes", "run", "[J", true)
  | _ => ("DemandTerms$Clashes", "size", "I", false)
def ty_C : Nat → FieldType := fun k => match k with
  | 0 => .array .int
  | 1 => .array .long
  | 2 => .array .int
  | 3 => .array .long
  | _ => .int
theorem nm_C : ∀ a, a < 5 → ∀ b, b < 5 → a ≠ b → (T_C a).2.1 ≠ (T_C b).2.1 := by decide +kernel
theorem ty_C_ok : ∀ k, k < 5 → parseFieldDescriptor (T_C k).2.2.1 = some (ty_C k) := by decide +kernel
theorem hi_C_0 : ∀ w ∈ u_ws "DemandTerms$Clashes" T_C 5, w ∈ tables_1 ∧ goodWord w = true := by decide +kernel
theorem hi_C : ∀ w ∈ u_ws "DemandTerms$Clashes" T_C 5, w ∈ AW := fun w h => List.mem_filter.mpr ⟨List.mem_append_right _ (hi_C_0 w h).1, (hi_C_0 w h).2⟩
def T_G : u_T := fun k => match k with
  | 0 => ("DemandTerms$Page", "signs", "[C", true)
  | _ => ("DemandTerms$Page", "length", "I", false)
def ty_G : Nat → FieldType := fun k => match k with
  | 0 => .array .char
  | _ => .int
theorem nm_G : ∀ a, a < 2 → ∀ b, b < 2 → a ≠ b → (T_G a).2.1 ≠ (T_G b).2.1 := by decide +kernel
theorem ty_G_ok : ∀ k, k < 2 → parseFieldDescriptor (T_G k).2.2.1 = some (ty_G k) := by decide +kernel
theorem hi_G_0 : ∀ w ∈ u_ws "DemandTerms$Page" T_G 2, w ∈ tables_1 ∧ goodWord w = true := by decide +kernel
theorem hi_G : ∀ w ∈ u_ws "DemandTerms$Page" T_G 2, w ∈ AW := fun w h => List.mem_filter.mpr ⟨List.mem_append_right _ (hi_G_0 w h).1, (hi_G_0 w h).2⟩
def T_M : u_T := fun k => match k with
  | 0 => ("DemandTermsModel", "code", "I", false)
  | 1 => ("DemandTermsModel", "versions", "[I", true)
  | 2 => ("DemandTermsModel", "names", "I", false)
  | 3 => ("DemandTermsModel", "terms", "I", false)
  | 4 => ("DemandTermsModel", "bars", "I", false)
  | 5 => ("DemandTermsModel", "needs", "I", false)
  | 6 => ("DemandTermsModel", "nameOf", "[I", true)
  | 7 => ("DemandTermsModel", "says", "[Z", true)
  | 8 => ("DemandTermsModel", "parts", "[I", true)
  | 9 => ("DemandTermsModel", "dName", "[I", true)
  | 10 => ("DemandTermsModel", "dFirst", "[I", true)
  | 11 => ("DemandTermsModel", "dLast", "[I", true)
  | 12 => ("DemandTermsModel", "dOther", "[I", true)
  | 13 => ("DemandTermsModel", "dKind", "[I", true)
  | 14 => ("DemandTermsModel", "dSet", "[J", true)
  | 15 => ("DemandTermsModel", "nName", "[I", true)
  | 16 => ("DemandTermsModel", "nVersion", "[I", true)
  | 17 => ("DemandTermsModel", "nOther", "[I", true)
  | 18 => ("DemandTermsModel", "nKind", "[I", true)
  | 19 => ("DemandTermsModel", "nSet", "[J", true)
  | 20 => ("DemandTermsModel", "out", "[I", true)
  | _ => ("DemandTermsModel", "printed", "I", false)
def ty_M : Nat → FieldType := fun k => match k with
  | 0 => .int
  | 1 => .array .int
  | 2 => .int
  | 3 => .int
  | 4 => .int
  | 5 => .int
  | 6 => .array .int
  | 7 => .array .boolean
  | 8 => .array .int
  | 9 => .array .int
  | 10 => .array .int
  | 11 => .array .int
  | 12 => .array .int
  | 13 => .array .int
  | 14 => .array .long
  | 15 => .array .int
  | 16 => .array .int
  | 17 => .array .int
  | 18 => .array .int
  | 19 => .array .long
  | 20 => .array .int
  | _ => .int
theorem nm_M : ∀ a, a < 22 → ∀ b, b < 22 → a ≠ b → (T_M a).2.1 ≠ (T_M b).2.1 := by decide +kernel
theorem ty_M_ok : ∀ k, k < 22 → parseFieldDescriptor (T_M k).2.2.1 = some (ty_M k) := by decide +kernel
theorem hi_M_0 : ∀ w ∈ u_ws "DemandTermsModel" T_M 22, w ∈ tables_1 ∧ goodWord w = true := by decide +kernel
theorem hi_M : ∀ w ∈ u_ws "DemandTermsModel" T_M 22, w ∈ AW := fun w h => List.mem_filter.mpr ⟨List.mem_append_right _ (hi_M_0 w h).1, (hi_M_0 w h).2⟩
abbrev vwCl : List vw_C := [("DemandTerms", T_D, 6), ("DemandTerms$Names", T_N, 2), ("DemandTerms$TermTable", T_T, 3), ("DemandTerms$NeedRows", T_R, 6), ("DemandTerms$Clashes", T_C, 5), ("DemandTerms$Page", T_G, 2), ("DemandTermsModel", T_M, 22)]
abbrev y_D_init : MethodName := ⟨"DemandTerms", "<init>", "()V"⟩
theorem q_D_init : y_D_init.cls = "DemandTerms" ∧ y_D_init.cls ≠ "java/lang/invoke/MethodHandle" ∧ y_D_init.cls ≠ "java/lang/invoke/VarHandle" ∧ (parseMethodDescriptor y_D_init.desc).map (fun d => d.parameters.length) = some 0 := by decide +kernel
abbrev y_D_versions : MethodName := ⟨"DemandTerms", "versions", "(I)I"⟩
theorem q_D_versions : y_D_versions.cls = "DemandTerms" ∧ y_D_versions.cls ≠ "java/lang/invoke/MethodHandle" ∧ y_D_versions.cls ≠ "java/lang/invoke/VarHandle" ∧ (parseMethodDescriptor y_D_versions.desc).map (fun d => d.parameters.length) = some 1 := by decide +kernel
abbrev y_D_term : MethodName := ⟨"DemandTerms", "term", "(IJZ)I"⟩
theorem q_D_term : y_D_term.cls = "DemandTerms" ∧ y_D_term.cls ≠ "java/lang/invoke/MethodHandle" ∧ y_D_term.cls ≠ "java/lang/invoke/VarHandle" ∧ (parseMethodDescriptor y_D_term.desc).map (fun d => d.parameters.length) = some 3 := by decide +kernel
abbrev y_D_both : MethodName := ⟨"DemandTerms", "both", "(IIZ)I"⟩
theorem q_D_both : y_D_both.cls = "DemandTerms" ∧ y_D_both.cls ≠ "java/lang/invoke/MethodHandle" ∧ y_D_both.cls ≠ "java/lang/invoke/VarHandle" ∧ (parseMethodDescriptor y_D_both.desc).map (fun d => d.parameters.length) = some 3 := by decide +kernel
abbrev y_D_relate : MethodName := ⟨"DemandTerms", "relate", "(II)I"⟩
theorem q_D_relate : y_D_relate.cls = "DemandTerms" ∧ y_D_relate.cls ≠ "java/lang/invoke/MethodHandle" ∧ y_D_relate.cls ≠ "java/lang/invoke/VarHandle" ∧ (parseMethodDescriptor y_D_relate.desc).map (fun d => d.parameters.length) = some 2 := by decide +kernel
abbrev y_D_relation : MethodName := ⟨"DemandTerms", "relation", "(JJ)I"⟩
theorem q_D_relation : y_D_relation.cls = "DemandTerms" ∧ y_D_relation.cls ≠ "java/lang/invoke/MethodHandle" ∧ y_D_relation.cls ≠ "java/lang/invoke/VarHandle" ∧ (parseMethodDescriptor y_D_relation.desc).map (fun d => d.parameters.length) = some 2 := by decide +kernel
abbrev y_D_about : MethodName := ⟨"DemandTerms", "about", "(II)I"⟩
theorem q_D_about : y_D_about.cls = "DemandTerms" ∧ y_D_about.cls ≠ "java/lang/invoke/MethodHandle" ∧ y_D_about.cls ≠ "java/lang/invoke/VarHandle" ∧ (parseMethodDescriptor y_D_about.desc).map (fun d => d.parameters.length) = some 2 := by decide +kernel
abbrev y_D_describe : MethodName := ⟨"DemandTerms", "describe", "(IJI)I"⟩
theorem q_D_describe : y_D_describe.cls = "DemandTerms" ∧ y_D_describe.cls ≠ "java/lang/invoke/MethodHandle" ∧ y_D_describe.cls ≠ "java/lang/invoke/VarHandle" ∧ (parseMethodDescriptor y_D_describe.desc).map (fun d => d.parameters.length) = some 3 := by decide +kernel
abbrev y_D_isWanted : MethodName := ⟨"DemandTerms", "isWanted", "(J)Z"⟩
theorem q_D_isWanted : y_D_isWanted.cls = "DemandTerms" ∧ y_D_isWanted.cls ≠ "java/lang/invoke/MethodHandle" ∧ y_D_isWanted.cls ≠ "java/lang/invoke/VarHandle" ∧ (parseMethodDescriptor y_D_isWanted.desc).map (fun d => d.parameters.length) = some 1 := by decide +kernel
abbrev y_D_set : MethodName := ⟨"DemandTerms", "set", "(I)J"⟩
theorem q_D_set : y_D_set.cls = "DemandTerms" ∧ y_D_set.cls ≠ "java/lang/invoke/MethodHandle" ∧ y_D_set.cls ≠ "java/lang/invoke/VarHandle" ∧ (parseMethodDescriptor y_D_set.desc).map (fun d => d.parameters.length) = some 1 := by decide +kernel
abbrev y_D_needs : MethodName := ⟨"DemandTerms", "needs", "(IIIJI)Z"⟩
theorem q_D_needs : y_D_needs.cls = "DemandTerms" ∧ y_D_needs.cls ≠ "java/lang/invoke/MethodHandle" ∧ y_D_needs.cls ≠ "java/lang/invoke/VarHandle" ∧ (parseMethodDescriptor y_D_needs.desc).map (fun d => d.parameters.length) = some 5 := by decide +kernel
abbrev y_D_hasVersion : MethodName := ⟨"DemandTerms", "hasVersion", "(JI)Z"⟩
theorem q_D_hasVersion : y_D_hasVersion.cls = "DemandTerms" ∧ y_D_hasVersion.cls ≠ "java/lang/invoke/MethodHandle" ∧ y_D_hasVersion.cls ≠ "java/lang/invoke/VarHandle" ∧ (parseMethodDescriptor y_D_hasVersion.desc).map (fun d => d.parameters.length) = some 2 := by decide +kernel
abbrev y_D_derive : MethodName := ⟨"DemandTerms", "derive", "(II)I"⟩
theorem q_D_derive : y_D_derive.cls = "DemandTerms" ∧ y_D_derive.cls ≠ "java/lang/invoke/MethodHandle" ∧ y_D_derive.cls ≠ "java/lang/invoke/VarHandle" ∧ (parseMethodDescriptor y_D_derive.desc).map (fun d => d.parameters.length) = some 2 := by decide +kernel
abbrev y_D_isDerived : MethodName := ⟨"DemandTerms", "isDerived", "(I)Z"⟩
theorem q_D_isDerived : y_D_isDerived.cls = "DemandTerms" ∧ y_D_isDerived.cls ≠ "java/lang/invoke/MethodHandle" ∧ y_D_isDerived.cls ≠ "java/lang/invoke/VarHandle" ∧ (parseMethodDescriptor y_D_isDerived.desc).map (fun d => d.parameters.length) = some 1 := by decide +kernel
abbrev y_D_deriveFrom : MethodName := ⟨"DemandTerms", "deriveFrom", "(I)Z"⟩
theorem q_D_deriveFrom : y_D_deriveFrom.cls = "DemandTerms" ∧ y_D_deriveFrom.cls ≠ "java/lang/invoke/MethodHandle" ∧ y_D_deriveFrom.cls ≠ "java/lang/invoke/VarHandle" ∧ (parseMethodDescriptor y_D_deriveFrom.desc).map (fun d => d.parameters.length) = some 1 := by decide +kernel
abbrev y_D_runAround : MethodName := ⟨"DemandTerms", "runAround", "(JI)J"⟩
theorem q_D_runAround : y_D_runAround.cls = "DemandTerms" ∧ y_D_runAround.cls ≠ "java/lang/invoke/MethodHandle" ∧ y_D_runAround.cls ≠ "java/lang/invoke/VarHandle" ∧ (parseMethodDescriptor y_D_runAround.desc).map (fun d => d.parameters.length) = some 2 := by decide +kernel
abbrev y_D_putPart : MethodName := ⟨"DemandTerms", "putPart", "(IIJ)V"⟩
theorem q_D_putPart : y_D_putPart.cls = "DemandTerms" ∧ y_D_putPart.cls ≠ "java/lang/invoke/MethodHandle" ∧ y_D_putPart.cls ≠ "java/lang/invoke/VarHandle" ∧ (parseMethodDescriptor y_D_putPart.desc).map (fun d => d.parameters.length) = some 3 := by decide +kernel
abbrev y_D_bar : MethodName := ⟨"DemandTerms", "bar", "(IJZ)I"⟩
theorem q_D_bar : y_D_bar.cls = "DemandTerms" ∧ y_D_bar.cls ≠ "java/lang/invoke/MethodHandle" ∧ y_D_bar.cls ≠ "java/lang/invoke/VarHandle" ∧ (parseMethodDescriptor y_D_bar.desc).map (fun d => d.parameters.length) = some 3 := by decide +kernel
abbrev y_D_learn : MethodName := ⟨"DemandTerms", "learn", "(III)I"⟩
theorem q_D_learn : y_D_learn.cls = "DemandTerms" ∧ y_D_learn.cls ≠ "java/lang/invoke/MethodHandle" ∧ y_D_learn.cls ≠ "java/lang/invoke/VarHandle" ∧ (parseMethodDescriptor y_D_learn.desc).map (fun d => d.parameters.length) = some 3 := by decide +kernel
abbrev y_D_placesIn : MethodName := ⟨"DemandTerms", "placesIn", "(II)J"⟩
theorem q_D_placesIn : y_D_placesIn.cls = "DemandTerms" ∧ y_D_placesIn.cls ≠ "java/lang/invoke/MethodHandle" ∧ y_D_placesIn.cls ≠ "java/lang/invoke/VarHandle" ∧ (parseMethodDescriptor y_D_placesIn.desc).map (fun d => d.parameters.length) = some 2 := by decide +kernel
abbrev y_D_count : MethodName := ⟨"DemandTerms", "count", "()I"⟩
theorem q_D_count : y_D_count.cls = "DemandTerms" ∧ y_D_count.cls ≠ "java/lang/invoke/MethodHandle" ∧ y_D_count.cls ≠ "java/lang/invoke/VarHandle" ∧ (parseMethodDescriptor y_D_count.desc).map (fun d => d.parameters.length) = some 0 := by decide +kernel
abbrev y_D_terms : MethodName := ⟨"DemandTerms", "terms", "(I)I"⟩
theorem q_D_terms : y_D_terms.cls = "DemandTerms" ∧ y_D_terms.cls ≠ "java/lang/invoke/MethodHandle" ∧ y_D_terms.cls ≠ "java/lang/invoke/VarHandle" ∧ (parseMethodDescriptor y_D_terms.desc).map (fun d => d.parameters.length) = some 1 := by decide +kernel
abbrev y_D_part : MethodName := ⟨"DemandTerms", "part", "(III)I"⟩
theorem q_D_part : y_D_part.cls = "DemandTerms" ∧ y_D_part.cls ≠ "java/lang/invoke/MethodHandle" ∧ y_D_part.cls ≠ "java/lang/invoke/VarHandle" ∧ (parseMethodDescriptor y_D_part.desc).map (fun d => d.parameters.length) = some 3 := by decide +kernel
abbrev y_D_partSet : MethodName := ⟨"DemandTerms", "partSet", "(II)J"⟩
theorem q_D_partSet : y_D_partSet.cls = "DemandTerms" ∧ y_D_partSet.cls ≠ "java/lang/invoke/MethodHandle" ∧ y_D_partSet.cls ≠ "java/lang/invoke/VarHandle" ∧ (parseMethodDescriptor y_D_partSet.desc).map (fun d => d.parameters.length) = some 2 := by decide +kernel
abbrev y_D_choose : MethodName := ⟨"DemandTerms", "choose", "(I)Z"⟩
theorem q_D_choose : y_D_choose.cls = "DemandTerms" ∧ y_D_choose.cls ≠ "java/lang/invoke/MethodHandle" ∧ y_D_choose.cls ≠ "java/lang/invoke/VarHandle" ∧ (parseMethodDescriptor y_D_choose.desc).map (fun d => d.parameters.length) = some 1 := by decide +kernel
abbrev y_D_narrowChoice : MethodName := ⟨"DemandTerms", "narrowChoice", "(IJ)V"⟩
theorem q_D_narrowChoice : y_D_narrowChoice.cls = "DemandTerms" ∧ y_D_narrowChoice.cls ≠ "java/lang/invoke/MethodHandle" ∧ y_D_narrowChoice.cls ≠ "java/lang/invoke/VarHandle" ∧ (parseMethodDescriptor y_D_narrowChoice.desc).map (fun d => d.parameters.length) = some 2 := by decide +kernel
abbrev y_D_forget : MethodName := ⟨"DemandTerms", "forget", "()V"⟩
theorem q_D_forget : y_D_forget.cls = "DemandTerms" ∧ y_D_forget.cls ≠ "java/lang/invoke/MethodHandle" ∧ y_D_forget.cls ≠ "java/lang/invoke/VarHandle" ∧ (parseMethodDescriptor y_D_forget.desc).map (fun d => d.parameters.length) = some 0 := by decide +kernel
abbrev y_D_state : MethodName := ⟨"DemandTerms", "state", "(I)I"⟩
theorem q_D_state : y_D_state.cls = "DemandTerms" ∧ y_D_state.cls ≠ "java/lang/invoke/MethodHandle" ∧ y_D_state.cls ≠ "java/lang/invoke/VarHandle" ∧ (parseMethodDescriptor y_D_state.desc).map (fun d => d.parameters.length) = some 1 := by decide +kernel
abbrev y_D_stateOf : MethodName := ⟨"DemandTerms", "stateOf", "(I)I"⟩
theorem q_D_stateOf : y_D_stateOf.cls = "DemandTerms" ∧ y_D_stateOf.cls ≠ "java/lang/invoke/MethodHandle" ∧ y_D_stateOf.cls ≠ "java/lang/invoke/VarHandle" ∧ (parseMethodDescriptor y_D_stateOf.desc).map (fun d => d.parameters.length) = some 1 := by decide +kernel
abbrev y_D_relationToChoice : MethodName := ⟨"DemandTerms", "relationToChoice", "(II)I"⟩
theorem q_D_relationToChoice : y_D_relationToChoice.cls = "DemandTerms" ∧ y_D_relationToChoice.cls ≠ "java/lang/invoke/MethodHandle" ∧ y_D_relationToChoice.cls ≠ "java/lang/invoke/VarHandle" ∧ (parseMethodDescriptor y_D_relationToChoice.desc).map (fun d => d.parameters.length) = some 2 := by decide +kernel
abbrev y_D_forced : MethodName := ⟨"DemandTerms", "forced", "(I)I"⟩
theorem q_D_forced : y_D_forced.cls = "DemandTerms" ∧ y_D_forced.cls ≠ "java/lang/invoke/MethodHandle" ∧ y_D_forced.cls ≠ "java/lang/invoke/VarHandle" ∧ (parseMethodDescriptor y_D_forced.desc).map (fun d => d.parameters.length) = some 1 := by decide +kernel
abbrev y_D_openName : MethodName := ⟨"DemandTerms", "openName", "(I)I"⟩
theorem q_D_openName : y_D_openName.cls = "DemandTerms" ∧ y_D_openName.cls ≠ "java/lang/invoke/MethodHandle" ∧ y_D_openName.cls ≠ "java/lang/invoke/VarHandle" ∧ (parseMethodDescriptor y_D_openName.desc).map (fun d => d.parameters.length) = some 1 := by decide +kernel
abbrev y_D_spread : MethodName := ⟨"DemandTerms", "spread", "()I"⟩
theorem q_D_spread : y_D_spread.cls = "DemandTerms" ∧ y_D_spread.cls ≠ "java/lang/invoke/MethodHandle" ∧ y_D_spread.cls ≠ "java/lang/invoke/VarHandle" ∧ (parseMethodDescriptor y_D_spread.desc).map (fun d => d.parameters.length) = some 0 := by decide +kernel
abbrev y_D_firstKept : MethodName := ⟨"DemandTerms", "firstKept", "()I"⟩
theorem q_D_firstKept : y_D_firstKept.cls = "DemandTerms" ∧ y_D_firstKept.cls ≠ "java/lang/invoke/MethodHandle" ∧ y_D_firstKept.cls ≠ "java/lang/invoke/VarHandle" ∧ (parseMethodDescriptor y_D_firstKept.desc).map (fun d => d.parameters.length) = some 0 := by decide +kernel
abbrev y_D_force : MethodName := ⟨"DemandTerms", "force", "(I)V"⟩
theorem q_D_force : y_D_force.cls = "DemandTerms" ∧ y_D_force.cls ≠ "java/lang/invoke/MethodHandle" ∧ y_D_force.cls ≠ "java/lang/invoke/VarHandle" ∧ (parseMethodDescriptor y_D_force.desc).map (fun d => d.parameters.length) = some 1 := by decide +kernel
abbrev y_D_chosen : MethodName := ⟨"DemandTerms", "chosen", "(II)I"⟩
theorem q_D_chosen : y_D_chosen.cls = "DemandTerms" ∧ y_D_chosen.cls ≠ "java/lang/invoke/MethodHandle" ∧ y_D_chosen.cls ≠ "java/lang/invoke/VarHandle" ∧ (parseMethodDescriptor y_D_chosen.desc).map (fun d => d.parameters.length) = some 2 := by decide +kernel
abbrev y_D_chosenSet : MethodName := ⟨"DemandTerms", "chosenSet", "(I)J"⟩
theorem q_D_chosenSet : y_D_chosenSet.cls = "DemandTerms" ∧ y_D_chosenSet.cls ≠ "java/lang/invoke/MethodHandle" ∧ y_D_chosenSet.cls ≠ "java/lang/invoke/VarHandle" ∧ (parseMethodDescriptor y_D_chosenSet.desc).map (fun d => d.parameters.length) = some 1 := by decide +kernel
abbrev y_D_print : MethodName := ⟨"DemandTerms", "print", "(I)I"⟩
theorem q_D_print : y_D_print.cls = "DemandTerms" ∧ y_D_print.cls ≠ "java/lang/invoke/MethodHandle" ∧ y_D_print.cls ≠ "java/lang/invoke/VarHandle" ∧ (parseMethodDescriptor y_D_print.desc).map (fun d => d.parameters.length) = some 1 := by decide +kernel
abbrev y_D_printPart : MethodName := ⟨"DemandTerms", "printPart", "(IJ)V"⟩
theorem q_D_printPart : y_D_printPart.cls = "DemandTerms" ∧ y_D_printPart.cls ≠ "java/lang/invoke/MethodHandle" ∧ y_D_printPart.cls ≠ "java/lang/invoke/VarHandle" ∧ (parseMethodDescriptor y_D_printPart.desc).map (fun d => d.parameters.length) = some 2 := by decide +kernel
abbrev y_D_at : MethodName := ⟨"DemandTerms", "at", "(I)I"⟩
theorem q_D_at : y_D_at.cls = "DemandTerms" ∧ y_D_at.cls ≠ "java/lang/invoke/MethodHandle" ∧ y_D_at.cls ≠ "java/lang/invoke/VarHandle" ∧ (parseMethodDescriptor y_D_at.desc).map (fun d => d.parameters.length) = some 1 := by decide +kernel
abbrev y_N_init : MethodName := ⟨"DemandTerms$Names", "<init>", "()V"⟩
theorem q_N_init : y_N_init.cls = "DemandTerms$Names" ∧ y_N_init.cls ≠ "java/lang/invoke/MethodHandle" ∧ y_N_init.cls ≠ "java/lang/invoke/VarHandle" ∧ (parseMethodDescriptor y_N_init.desc).map (fun d => d.parameters.length) = some 0 := by decide +kernel
abbrev y_N_add : MethodName := ⟨"DemandTerms$Names", "add", "(I)I"⟩
theorem q_N_add : y_N_add.cls = "DemandTerms$Names" ∧ y_N_add.cls ≠ "java/lang/invoke/MethodHandle" ∧ y_N_add.cls ≠ "java/lang/invoke/VarHandle" ∧ (parseMethodDescriptor y_N_add.desc).map (fun d => d.parameters.length) = some 1 := by decide +kernel
abbrev y_N_everywhere : MethodName := ⟨"DemandTerms$Names", "everywhere", "(I)J"⟩
theorem q_N_everywhere : y_N_everywhere.cls = "DemandTerms$Names" ∧ y_N_everywhere.cls ≠ "java/lang/invoke/MethodHandle" ∧ y_N_everywhere.cls ≠ "java/lang/invoke/VarHandle" ∧ (parseMethodDescriptor y_N_everywhere.desc).map (fun d => d.parameters.length) = some 1 := by decide +kernel
abbrev y_N_has : MethodName := ⟨"DemandTerms$Names", "has", "(I)Z"⟩
theorem q_N_has : y_N_has.cls = "DemandTerms$Names" ∧ y_N_has.cls ≠ "java/lang/invoke/MethodHandle" ∧ y_N_has.cls ≠ "java/lang/invoke/VarHandle" ∧ (parseMethodDescriptor y_N_has.desc).map (fun d => d.parameters.length) = some 1 := by decide +kernel
abbrev y_N_placesOf : MethodName := ⟨"DemandTerms$Names", "placesOf", "(IJZ)J"⟩
theorem q_N_placesOf : y_N_placesOf.cls = "DemandTerms$Names" ∧ y_N_placesOf.cls ≠ "java/lang/invoke/MethodHandle" ∧ y_N_placesOf.cls ≠ "java/lang/invoke/VarHandle" ∧ (parseMethodDescriptor y_N_placesOf.desc).map (fun d => d.parameters.length) = some 3 := by decide +kernel
abbrev y_N_setOf : MethodName := ⟨"DemandTerms$Names", "setOf", "(IJ)J"⟩
theorem q_N_setOf : y_N_setOf.cls = "DemandTerms$Names" ∧ y_N_setOf.cls ≠ "java/lang/invoke/MethodHandle" ∧ y_N_setOf.cls ≠ "java/lang/invoke/VarHandle" ∧ (parseMethodDescriptor y_N_setOf.desc).map (fun d => d.parameters.length) = some 2 := by decide +kernel
abbrev y_N_hasVersion : MethodName := ⟨"DemandTerms$Names", "hasVersion", "(II)Z"⟩
theorem q_N_hasVersion : y_N_hasVersion.cls = "DemandTerms$Names" ∧ y_N_hasVersion.cls ≠ "java/lang/invoke/MethodHandle" ∧ y_N_hasVersion.cls ≠ "java/lang/invoke/VarHandle" ∧ (parseMethodDescriptor y_N_hasVersion.desc).map (fun d => d.parameters.length) = some 2 := by decide +kernel
abbrev y_N_size : MethodName := ⟨"DemandTerms$Names", "size", "()I"⟩
theorem q_N_size : y_N_size.cls = "DemandTerms$Names" ∧ y_N_size.cls ≠ "java/lang/invoke/MethodHandle" ∧ y_N_size.cls ≠ "java/lang/invoke/VarHandle" ∧ (parseMethodDescriptor y_N_size.desc).map (fun d => d.parameters.length) = some 0 := by decide +kernel
abbrev y_T_init : MethodName := ⟨"DemandTerms$TermTable", "<init>", "()V"⟩
theorem q_T_init : y_T_init.cls = "DemandTerms$TermTable" ∧ y_T_init.cls ≠ "java/lang/invoke/MethodHandle" ∧ y_T_init.cls ≠ "java/lang/invoke/VarHandle" ∧ (parseMethodDescriptor y_T_init.desc).map (fun d => d.parameters.length) = some 0 := by decide +kernel
abbrev y_T_add : MethodName := ⟨"DemandTerms$TermTable", "add", "(IJ)I"⟩
theorem q_T_add : y_T_add.cls = "DemandTerms$TermTable" ∧ y_T_add.cls ≠ "java/lang/invoke/MethodHandle" ∧ y_T_add.cls ≠ "java/lang/invoke/VarHandle" ∧ (parseMethodDescriptor y_T_add.desc).map (fun d => d.parameters.length) = some 2 := by decide +kernel
abbrev y_T_has : MethodName := ⟨"DemandTerms$TermTable", "has", "(I)Z"⟩
theorem q_T_has : y_T_has.cls = "DemandTerms$TermTable" ∧ y_T_has.cls ≠ "java/lang/invoke/MethodHandle" ∧ y_T_has.cls ≠ "java/lang/invoke/VarHandle" ∧ (parseMethodDescriptor y_T_has.desc).map (fun d => d.parameters.length) = some 1 := by decide +kernel
abbrev y_T_nameOf : MethodName := ⟨"DemandTerms$TermTable", "nameOf", "(I)I"⟩
theorem q_T_nameOf : y_T_nameOf.cls = "DemandTerms$TermTable" ∧ y_T_nameOf.cls ≠ "java/lang/invoke/MethodHandle" ∧ y_T_nameOf.cls ≠ "java/lang/invoke/VarHandle" ∧ (parseMethodDescriptor y_T_nameOf.desc).map (fun d => d.parameters.length) = some 1 := by decide +kernel
abbrev y_T_placesOf : MethodName := ⟨"DemandTerms$TermTable", "placesOf", "(I)J"⟩
theorem q_T_placesOf : y_T_placesOf.cls = "DemandTerms$TermTable" ∧ y_T_placesOf.cls ≠ "java/lang/invoke/MethodHandle" ∧ y_T_placesOf.cls ≠ "java/lang/invoke/VarHandle" ∧ (parseMethodDescriptor y_T_placesOf.desc).map (fun d => d.parameters.length) = some 1 := by decide +kernel
abbrev y_R_init : MethodName := ⟨"DemandTerms$NeedRows", "<init>", "()V"⟩
theorem q_R_init : y_R_init.cls = "DemandTerms$NeedRows" ∧ y_R_init.cls ≠ "java/lang/invoke/MethodHandle" ∧ y_R_init.cls ≠ "java/lang/invoke/VarHandle" ∧ (parseMethodDescriptor y_R_init.desc).map (fun d => d.parameters.length) = some 0 := by decide +kernel
abbrev y_R_add : MethodName := ⟨"DemandTerms$NeedRows", "add", "(IIIJI)Z"⟩
theorem q_R_add : y_R_add.cls = "DemandTerms$NeedRows" ∧ y_R_add.cls ≠ "java/lang/invoke/MethodHandle" ∧ y_R_add.cls ≠ "java/lang/invoke/VarHandle" ∧ (parseMethodDescriptor y_R_add.desc).map (fun d => d.parameters.length) = some 5 := by decide +kernel
abbrev y_R_size : MethodName := ⟨"DemandTerms$NeedRows", "size", "()I"⟩
theorem q_R_size : y_R_size.cls = "DemandTerms$NeedRows" ∧ y_R_size.cls ≠ "java/lang/invoke/MethodHandle" ∧ y_R_size.cls ≠ "java/lang/invoke/VarHandle" ∧ (parseMethodDescriptor y_R_size.desc).map (fun d => d.parameters.length) = some 0 := by decide +kernel
abbrev y_R_isOf : MethodName := ⟨"DemandTerms$NeedRows", "isOf", "(III)Z"⟩
theorem q_R_isOf : y_R_isOf.cls = "DemandTerms$NeedRows" ∧ y_R_isOf.cls ≠ "java/lang/invoke/MethodHandle" ∧ y_R_isOf.cls ≠ "java/lang/invoke/VarHandle" ∧ (parseMethodDescriptor y_R_isOf.desc).map (fun d => d.parameters.length) = some 3 := by decide +kernel
abbrev y_R_has : MethodName := ⟨"DemandTerms$NeedRows", "has", "(I)Z"⟩
theorem q_R_has : y_R_has.cls = "DemandTerms$NeedRows" ∧ y_R_has.cls ≠ "java/lang/invoke/MethodHandle" ∧ y_R_has.cls ≠ "java/lang/invoke/VarHandle" ∧ (parseMethodDescriptor y_R_has.desc).map (fun d => d.parameters.length) = some 1 := by decide +kernel
abbrev y_R_versionOf : MethodName := ⟨"DemandTerms$NeedRows", "versionOf", "(I)I"⟩
theorem q_R_versionOf : y_R_versionOf.cls = "DemandTerms$NeedRows" ∧ y_R_versionOf.cls ≠ "java/lang/invoke/MethodHandle" ∧ y_R_versionOf.cls ≠ "java/lang/invoke/VarHandle" ∧ (parseMethodDescriptor y_R_versionOf.desc).map (fun d => d.parameters.length) = some 1 := by decide +kernel
abbrev y_R_alike : MethodName := ⟨"DemandTerms$NeedRows", "alike", "(II)Z"⟩
theorem q_R_alike : y_R_alike.cls = "DemandTerms$NeedRows" ∧ y_R_alike.cls ≠ "java/lang/invoke/MethodHandle" ∧ y_R_alike.cls ≠ "java/lang/invoke/VarHandle" ∧ (parseMethodDescriptor y_R_alike.desc).map (fun d => d.parameters.length) = some 2 := by decide +kernel
abbrev y_R_versionsLike : MethodName := ⟨"DemandTerms$NeedRows", "versionsLike", "(I)J"⟩
theorem q_R_versionsLike : y_R_versionsLike.cls = "DemandTerms$NeedRows" ∧ y_R_versionsLike.cls ≠ "java/lang/invoke/MethodHandle" ∧ y_R_versionsLike.cls ≠ "java/lang/invoke/VarHandle" ∧ (parseMethodDescriptor y_R_versionsLike.desc).map (fun d => d.parameters.length) = some 1 := by decide +kernel
abbrev y_R_nameOf : MethodName := ⟨"DemandTerms$NeedRows", "nameOf", "(I)I"⟩
theorem q_R_nameOf : y_R_nameOf.cls = "DemandTerms$NeedRows" ∧ y_R_nameOf.cls ≠ "java/lang/invoke/MethodHandle" ∧ y_R_nameOf.cls ≠ "java/lang/invoke/VarHandle" ∧ (parseMethodDescriptor y_R_nameOf.desc).map (fun d => d.parameters.length) = some 1 := by decide +kernel
abbrev y_R_otherOf : MethodName := ⟨"DemandTerms$NeedRows", "otherOf", "(I)I"⟩
theorem q_R_otherOf : y_R_otherOf.cls = "DemandTerms$NeedRows" ∧ y_R_otherOf.cls ≠ "java/lang/invoke/MethodHandle" ∧ y_R_otherOf.cls ≠ "java/lang/invoke/VarHandle" ∧ (parseMethodDescriptor y_R_otherOf.desc).map (fun d => d.parameters.length) = some 1 := by decide +kernel
abbrev y_R_neededOf : MethodName := ⟨"DemandTerms$NeedRows", "neededOf", "(I)J"⟩
theorem q_R_neededOf : y_R_neededOf.cls = "DemandTerms$NeedRows" ∧ y_R_neededOf.cls ≠ "java/lang/invoke/MethodHandle" ∧ y_R_neededOf.cls ≠ "java/lang/invoke/VarHandle" ∧ (parseMethodDescriptor y_R_neededOf.desc).map (fun d => d.parameters.length) = some 1 := by decide +kernel
abbrev y_C_init : MethodName := ⟨"DemandTerms$Clashes", "<init>", "()V"⟩
theorem q_C_init : y_C_init.cls = "DemandTerms$Clashes" ∧ y_C_init.cls ≠ "java/lang/invoke/MethodHandle" ∧ y_C_init.cls ≠ "java/lang/invoke/VarHandle" ∧ (parseMethodDescriptor y_C_init.desc).map (fun d => d.parameters.length) = some 0 := by decide +kernel
abbrev y_C_size : MethodName := ⟨"DemandTerms$Clashes", "size", "()I"⟩
theorem q_C_size : y_C_size.cls = "DemandTerms$Clashes" ∧ y_C_size.cls ≠ "java/lang/invoke/MethodHandle" ∧ y_C_size.cls ≠ "java/lang/invoke/VarHandle" ∧ (parseMethodDescriptor y_C_size.desc).map (fun d => d.parameters.length) = some 0 := by decide +kernel
abbrev y_C_sourceOf : MethodName := ⟨"DemandTerms$Clashes", "sourceOf", "(I)I"⟩
theorem q_C_sourceOf : y_C_sourceOf.cls = "DemandTerms$Clashes" ∧ y_C_sourceOf.cls ≠ "java/lang/invoke/MethodHandle" ∧ y_C_sourceOf.cls ≠ "java/lang/invoke/VarHandle" ∧ (parseMethodDescriptor y_C_sourceOf.desc).map (fun d => d.parameters.length) = some 1 := by decide +kernel
abbrev y_C_has : MethodName := ⟨"DemandTerms$Clashes", "has", "(I)Z"⟩
theorem q_C_has : y_C_has.cls = "DemandTerms$Clashes" ∧ y_C_has.cls ≠ "java/lang/invoke/MethodHandle" ∧ y_C_has.cls ≠ "java/lang/invoke/VarHandle" ∧ (parseMethodDescriptor y_C_has.desc).map (fun d => d.parameters.length) = some 1 := by decide +kernel
abbrev y_C_runOf : MethodName := ⟨"DemandTerms$Clashes", "runOf", "(I)J"⟩
theorem q_C_runOf : y_C_runOf.cls = "DemandTerms$Clashes" ∧ y_C_runOf.cls ≠ "java/lang/invoke/MethodHandle" ∧ y_C_runOf.cls ≠ "java/lang/invoke/VarHandle" ∧ (parseMethodDescriptor y_C_runOf.desc).map (fun d => d.parameters.length) = some 1 := by decide +kernel
abbrev y_C_add : MethodName := ⟨"DemandTerms$Clashes", "add", "(IJ)I"⟩
theorem q_C_add : y_C_add.cls = "DemandTerms$Clashes" ∧ y_C_add.cls ≠ "java/lang/invoke/MethodHandle" ∧ y_C_add.cls ≠ "java/lang/invoke/VarHandle" ∧ (parseMethodDescriptor y_C_add.desc).map (fun d => d.parameters.length) = some 2 := by decide +kernel
abbrev y_C_put : MethodName := ⟨"DemandTerms$Clashes", "put", "(IIJ)V"⟩
theorem q_C_put : y_C_put.cls = "DemandTerms$Clashes" ∧ y_C_put.cls ≠ "java/lang/invoke/MethodHandle" ∧ y_C_put.cls ≠ "java/lang/invoke/VarHandle" ∧ (parseMethodDescriptor y_C_put.desc).map (fun d => d.parameters.length) = some 3 := by decide +kernel
abbrev y_C_cutTo : MethodName := ⟨"DemandTerms$Clashes", "cutTo", "(I)V"⟩
theorem q_C_cutTo : y_C_cutTo.cls = "DemandTerms$Clashes" ∧ y_C_cutTo.cls ≠ "java/lang/invoke/MethodHandle" ∧ y_C_cutTo.cls ≠ "java/lang/invoke/VarHandle" ∧ (parseMethodDescriptor y_C_cutTo.desc).map (fun d => d.parameters.length) = some 1 := by decide +kernel
abbrev y_C_holds : MethodName := ⟨"DemandTerms$Clashes", "holds", "(II)Z"⟩
theorem q_C_holds : y_C_holds.cls = "DemandTerms$Clashes" ∧ y_C_holds.cls ≠ "java/lang/invoke/MethodHandle" ∧ y_C_holds.cls ≠ "java/lang/invoke/VarHandle" ∧ (parseMethodDescriptor y_C_holds.desc).map (fun d => d.parameters.length) = some 2 := by decide +kernel
abbrev y_C_placesOf : MethodName := ⟨"DemandTerms$Clashes", "placesOf", "(II)J"⟩
theorem q_C_placesOf : y_C_placesOf.cls = "DemandTerms$Clashes" ∧ y_C_placesOf.cls ≠ "java/lang/invoke/MethodHandle" ∧ y_C_placesOf.cls ≠ "java/lang/invoke/VarHandle" ∧ (parseMethodDescriptor y_C_placesOf.desc).map (fun d => d.parameters.length) = some 2 := by decide +kernel
abbrev y_C_partsOf : MethodName := ⟨"DemandTerms$Clashes", "partsOf", "(I)I"⟩
theorem q_C_partsOf : y_C_partsOf.cls = "DemandTerms$Clashes" ∧ y_C_partsOf.cls ≠ "java/lang/invoke/MethodHandle" ∧ y_C_partsOf.cls ≠ "java/lang/invoke/VarHandle" ∧ (parseMethodDescriptor y_C_partsOf.desc).map (fun d => d.parameters.length) = some 1 := by decide +kernel
abbrev y_C_nameAt : MethodName := ⟨"DemandTerms$Clashes", "nameAt", "(II)I"⟩
theorem q_C_nameAt : y_C_nameAt.cls = "DemandTerms$Clashes" ∧ y_C_nameAt.cls ≠ "java/lang/invoke/MethodHandle" ∧ y_C_nameAt.cls ≠ "java/lang/invoke/VarHandle" ∧ (parseMethodDescriptor y_C_nameAt.desc).map (fun d => d.parameters.length) = some 2 := by decide +kernel
abbrev y_C_indexOf : MethodName := ⟨"DemandTerms$Clashes", "indexOf", "(II)I"⟩
theorem q_C_indexOf : y_C_indexOf.cls = "DemandTerms$Clashes" ∧ y_C_indexOf.cls ≠ "java/lang/invoke/MethodHandle" ∧ y_C_indexOf.cls ≠ "java/lang/invoke/VarHandle" ∧ (parseMethodDescriptor y_C_indexOf.desc).map (fun d => d.parameters.length) = some 2 := by decide +kernel
abbrev y_G_init : MethodName := ⟨"DemandTerms$Page", "<init>", "()V"⟩
theorem q_G_init : y_G_init.cls = "DemandTerms$Page" ∧ y_G_init.cls ≠ "java/lang/invoke/MethodHandle" ∧ y_G_init.cls ≠ "java/lang/invoke/VarHandle" ∧ (parseMethodDescriptor y_G_init.desc).map (fun d => d.parameters.length) = some 0 := by decide +kernel
abbrev y_G_clear : MethodName := ⟨"DemandTerms$Page", "clear", "()V"⟩
theorem q_G_clear : y_G_clear.cls = "DemandTerms$Page" ∧ y_G_clear.cls ≠ "java/lang/invoke/MethodHandle" ∧ y_G_clear.cls ≠ "java/lang/invoke/VarHandle" ∧ (parseMethodDescriptor y_G_clear.desc).map (fun d => d.parameters.length) = some 0 := by decide +kernel
abbrev y_G_length : MethodName := ⟨"DemandTerms$Page", "length", "()I"⟩
theorem q_G_length : y_G_length.cls = "DemandTerms$Page" ∧ y_G_length.cls ≠ "java/lang/invoke/MethodHandle" ∧ y_G_length.cls ≠ "java/lang/invoke/VarHandle" ∧ (parseMethodDescriptor y_G_length.desc).map (fun d => d.parameters.length) = some 0 := by decide +kernel
abbrev y_G_put : MethodName := ⟨"DemandTerms$Page", "put", "(C)V"⟩
theorem q_G_put : y_G_put.cls = "DemandTerms$Page" ∧ y_G_put.cls ≠ "java/lang/invoke/MethodHandle" ∧ y_G_put.cls ≠ "java/lang/invoke/VarHandle" ∧ (parseMethodDescriptor y_G_put.desc).map (fun d => d.parameters.length) = some 1 := by decide +kernel
abbrev y_G_putRuns : MethodName := ⟨"DemandTerms$Page", "putRuns", "(J)V"⟩
theorem q_G_putRuns : y_G_putRuns.cls = "DemandTerms$Page" ∧ y_G_putRuns.cls ≠ "java/lang/invoke/MethodHandle" ∧ y_G_putRuns.cls ≠ "java/lang/invoke/VarHandle" ∧ (parseMethodDescriptor y_G_putRuns.desc).map (fun d => d.parameters.length) = some 1 := by decide +kernel
abbrev y_G_putNumber : MethodName := ⟨"DemandTerms$Page", "putNumber", "(I)V"⟩
theorem q_G_putNumber : y_G_putNumber.cls = "DemandTerms$Page" ∧ y_G_putNumber.cls ≠ "java/lang/invoke/MethodHandle" ∧ y_G_putNumber.cls ≠ "java/lang/invoke/VarHandle" ∧ (parseMethodDescriptor y_G_putNumber.desc).map (fun d => d.parameters.length) = some 1 := by decide +kernel
abbrev y_G_signAt : MethodName := ⟨"DemandTerms$Page", "signAt", "(I)I"⟩
theorem q_G_signAt : y_G_signAt.cls = "DemandTerms$Page" ∧ y_G_signAt.cls ≠ "java/lang/invoke/MethodHandle" ∧ y_G_signAt.cls ≠ "java/lang/invoke/VarHandle" ∧ (parseMethodDescriptor y_G_signAt.desc).map (fun d => d.parameters.length) = some 1 := by decide +kernel
abbrev y_JL_bitCount : MethodName := ⟨"java/lang/Long", "bitCount", "(J)I"⟩
theorem q_JL_bitCount : y_JL_bitCount.cls = "java/lang/Long" ∧ y_JL_bitCount.cls ≠ "java/lang/invoke/MethodHandle" ∧ y_JL_bitCount.cls ≠ "java/lang/invoke/VarHandle" ∧ (parseMethodDescriptor y_JL_bitCount.desc).map (fun d => d.parameters.length) = some 1 := by decide +kernel
abbrev y_JI_bitCount : MethodName := ⟨"java/lang/Integer", "bitCount", "(I)I"⟩
theorem q_JI_bitCount : y_JI_bitCount.cls = "java/lang/Integer" ∧ y_JI_bitCount.cls ≠ "java/lang/invoke/MethodHandle" ∧ y_JI_bitCount.cls ≠ "java/lang/invoke/VarHandle" ∧ (parseMethodDescriptor y_JI_bitCount.desc).map (fun d => d.parameters.length) = some 1 := by decide +kernel
abbrev y_M_init : MethodName := ⟨"DemandTermsModel", "<init>", "()V"⟩
theorem q_M_init : y_M_init.cls = "DemandTermsModel" ∧ y_M_init.cls ≠ "java/lang/invoke/MethodHandle" ∧ y_M_init.cls ≠ "java/lang/invoke/VarHandle" ∧ (parseMethodDescriptor y_M_init.desc).map (fun d => d.parameters.length) = some 0 := by decide +kernel
abbrev y_M_versions : MethodName := ⟨"DemandTermsModel", "versions", "(I)I"⟩
theorem q_M_versions : y_M_versions.cls = "DemandTermsModel" ∧ y_M_versions.cls ≠ "java/lang/invoke/MethodHandle" ∧ y_M_versions.cls ≠ "java/lang/invoke/VarHandle" ∧ (parseMethodDescriptor y_M_versions.desc).map (fun d => d.parameters.length) = some 1 := by decide +kernel
abbrev y_M_full : MethodName := ⟨"DemandTermsModel", "full", "(I)V"⟩
theorem q_M_full : y_M_full.cls = "DemandTermsModel" ∧ y_M_full.cls ≠ "java/lang/invoke/MethodHandle" ∧ y_M_full.cls ≠ "java/lang/invoke/VarHandle" ∧ (parseMethodDescriptor y_M_full.desc).map (fun d => d.parameters.length) = some 1 := by decide +kernel
abbrev y_M_tell : MethodName := ⟨"DemandTermsModel", "tell", "(IIZ)V"⟩
theorem q_M_tell : y_M_tell.cls = "DemandTermsModel" ∧ y_M_tell.cls ≠ "java/lang/invoke/MethodHandle" ∧ y_M_tell.cls ≠ "java/lang/invoke/VarHandle" ∧ (parseMethodDescriptor y_M_tell.desc).map (fun d => d.parameters.length) = some 3 := by decide +kernel
abbrev y_M_term : MethodName := ⟨"DemandTermsModel", "term", "(IJZ)I"⟩
theorem q_M_term : y_M_term.cls = "DemandTermsModel" ∧ y_M_term.cls ≠ "java/lang/invoke/MethodHandle" ∧ y_M_term.cls ≠ "java/lang/invoke/VarHandle" ∧ (parseMethodDescriptor y_M_term.desc).map (fun d => d.parameters.length) = some 3 := by decide +kernel
abbrev y_M_isName : MethodName := ⟨"DemandTermsModel", "isName", "(I)Z"⟩
theorem q_M_isName : y_M_isName.cls = "DemandTermsModel" ∧ y_M_isName.cls ≠ "java/lang/invoke/MethodHandle" ∧ y_M_isName.cls ≠ "java/lang/invoke/VarHandle" ∧ (parseMethodDescriptor y_M_isName.desc).map (fun d => d.parameters.length) = some 1 := by decide +kernel
abbrev y_M_make : MethodName := ⟨"DemandTermsModel", "make", "(IIJZ)V"⟩
theorem q_M_make : y_M_make.cls = "DemandTermsModel" ∧ y_M_make.cls ≠ "java/lang/invoke/MethodHandle" ∧ y_M_make.cls ≠ "java/lang/invoke/VarHandle" ∧ (parseMethodDescriptor y_M_make.desc).map (fun d => d.parameters.length) = some 4 := by decide +kernel
abbrev y_M_both : MethodName := ⟨"DemandTermsModel", "both", "(IIZ)I"⟩
theorem q_M_both : y_M_both.cls = "DemandTermsModel" ∧ y_M_both.cls ≠ "java/lang/invoke/MethodHandle" ∧ y_M_both.cls ≠ "java/lang/invoke/VarHandle" ∧ (parseMethodDescriptor y_M_both.desc).map (fun d => d.parameters.length) = some 3 := by decide +kernel
abbrev y_M_isTerm : MethodName := ⟨"DemandTermsModel", "isTerm", "(I)Z"⟩
theorem q_M_isTerm : y_M_isTerm.cls = "DemandTermsModel" ∧ y_M_isTerm.cls ≠ "java/lang/invoke/MethodHandle" ∧ y_M_isTerm.cls ≠ "java/lang/invoke/VarHandle" ∧ (parseMethodDescriptor y_M_isTerm.desc).map (fun d => d.parameters.length) = some 1 := by decide +kernel
abbrev y_M_join : MethodName := ⟨"DemandTermsModel", "join", "(IIIZ)V"⟩
theorem q_M_join : y_M_join.cls = "DemandTermsModel" ∧ y_M_join.cls ≠ "java/lang/invoke/MethodHandle" ∧ y_M_join.cls ≠ "java/lang/invoke/VarHandle" ∧ (parseMethodDescriptor y_M_join.desc).map (fun d => d.parameters.length) = some 4 := by decide +kernel
abbrev y_M_isSaid : MethodName := ⟨"DemandTermsModel", "isSaid", "(II)Z"⟩
theorem q_M_isSaid : y_M_isSaid.cls = "DemandTermsModel" ∧ y_M_isSaid.cls ≠ "java/lang/invoke/MethodHandle" ∧ y_M_isSaid.cls ≠ "java/lang/invoke/VarHandle" ∧ (parseMethodDescriptor y_M_isSaid.desc).map (fun d => d.parameters.length) = some 2 := by decide +kernel
abbrev y_M_relate : MethodName := ⟨"DemandTermsModel", "relate", "(II)I"⟩
theorem q_M_relate : y_M_relate.cls = "DemandTermsModel" ∧ y_M_relate.cls ≠ "java/lang/invoke/MethodHandle" ∧ y_M_relate.cls ≠ "java/lang/invoke/VarHandle" ∧ (parseMethodDescriptor y_M_relate.desc).map (fun d => d.parameters.length) = some 2 := by decide +kernel
abbrev y_M_relation : MethodName := ⟨"DemandTermsModel", "relation", "(II)I"⟩
theorem q_M_relation : y_M_relation.cls = "DemandTermsModel" ∧ y_M_relation.cls ≠ "java/lang/invoke/MethodHandle" ∧ y_M_relation.cls ≠ "java/lang/invoke/VarHandle" ∧ (parseMethodDescriptor y_M_relation.desc).map (fun d => d.parameters.length) = some 2 := by decide +kernel
abbrev y_M_about : MethodName := ⟨"DemandTermsModel", "about", "(II)I"⟩
theorem q_M_about : y_M_about.cls = "DemandTermsModel" ∧ y_M_about.cls ≠ "java/lang/invoke/MethodHandle" ∧ y_M_about.cls ≠ "java/lang/invoke/VarHandle" ∧ (parseMethodDescriptor y_M_about.desc).map (fun d => d.parameters.length) = some 2 := by decide +kernel
abbrev y_M_aboutOf : MethodName := ⟨"DemandTermsModel", "aboutOf", "(II)I"⟩
theorem q_M_aboutOf : y_M_aboutOf.cls = "DemandTermsModel" ∧ y_M_aboutOf.cls ≠ "java/lang/invoke/MethodHandle" ∧ y_M_aboutOf.cls ≠ "java/lang/invoke/VarHandle" ∧ (parseMethodDescriptor y_M_aboutOf.desc).map (fun d => d.parameters.length) = some 2 := by decide +kernel
abbrev y_M_isListed : MethodName := ⟨"DemandTermsModel", "isListed", "(II)Z"⟩
theorem q_M_isListed : y_M_isListed.cls = "DemandTermsModel" ∧ y_M_isListed.cls ≠ "java/lang/invoke/MethodHandle" ∧ y_M_isListed.cls ≠ "java/lang/invoke/VarHandle" ∧ (parseMethodDescriptor y_M_isListed.desc).map (fun d => d.parameters.length) = some 2 := by decide +kernel
abbrev y_M_isWanted : MethodName := ⟨"DemandTermsModel", "isWanted", "(I)Z"⟩
theorem q_M_isWanted : y_M_isWanted.cls = "DemandTermsModel" ∧ y_M_isWanted.cls ≠ "java/lang/invoke/MethodHandle" ∧ y_M_isWanted.cls ≠ "java/lang/invoke/VarHandle" ∧ (parseMethodDescriptor y_M_isWanted.desc).map (fun d => d.parameters.length) = some 1 := by decide +kernel
abbrev y_M_set : MethodName := ⟨"DemandTermsModel", "set", "(I)J"⟩
theorem q_M_set : y_M_set.cls = "DemandTermsModel" ∧ y_M_set.cls ≠ "java/lang/invoke/MethodHandle" ∧ y_M_set.cls ≠ "java/lang/invoke/VarHandle" ∧ (parseMethodDescriptor y_M_set.desc).map (fun d => d.parameters.length) = some 1 := by decide +kernel
abbrev y_M_setOf : MethodName := ⟨"DemandTermsModel", "setOf", "(I)J"⟩
theorem q_M_setOf : y_M_setOf.cls = "DemandTermsModel" ∧ y_M_setOf.cls ≠ "java/lang/invoke/MethodHandle" ∧ y_M_setOf.cls ≠ "java/lang/invoke/VarHandle" ∧ (parseMethodDescriptor y_M_setOf.desc).map (fun d => d.parameters.length) = some 1 := by decide +kernel
abbrev y_M_needs : MethodName := ⟨"DemandTermsModel", "needs", "(IIIJI)Z"⟩
theorem q_M_needs : y_M_needs.cls = "DemandTermsModel" ∧ y_M_needs.cls ≠ "java/lang/invoke/MethodHandle" ∧ y_M_needs.cls ≠ "java/lang/invoke/VarHandle" ∧ (parseMethodDescriptor y_M_needs.desc).map (fun d => d.parameters.length) = some 5 := by decide +kernel
abbrev y_M_there : MethodName := ⟨"DemandTermsModel", "there", "(IJ)J"⟩
theorem q_M_there : y_M_there.cls = "DemandTermsModel" ∧ y_M_there.cls ≠ "java/lang/invoke/MethodHandle" ∧ y_M_there.cls ≠ "java/lang/invoke/VarHandle" ∧ (parseMethodDescriptor y_M_there.desc).map (fun d => d.parameters.length) = some 2 := by decide +kernel
abbrev y_M_derive : MethodName := ⟨"DemandTermsModel", "derive", "(II)I"⟩
theorem q_M_derive : y_M_derive.cls = "DemandTermsModel" ∧ y_M_derive.cls ≠ "java/lang/invoke/MethodHandle" ∧ y_M_derive.cls ≠ "java/lang/invoke/VarHandle" ∧ (parseMethodDescriptor y_M_derive.desc).map (fun d => d.parameters.length) = some 2 := by decide +kernel
abbrev y_M_isDerived : MethodName := ⟨"DemandTermsModel", "isDerived", "(II)Z"⟩
theorem q_M_isDerived : y_M_isDerived.cls = "DemandTermsModel" ∧ y_M_isDerived.cls ≠ "java/lang/invoke/MethodHandle" ∧ y_M_isDerived.cls ≠ "java/lang/invoke/VarHandle" ∧ (parseMethodDescriptor y_M_isDerived.desc).map (fun d => d.parameters.length) = some 2 := by decide +kernel
abbrev y_M_deriveRow : MethodName := ⟨"DemandTermsModel", "deriveRow", "(I)V"⟩
theorem q_M_deriveRow : y_M_deriveRow.cls = "DemandTermsModel" ∧ y_M_deriveRow.cls ≠ "java/lang/invoke/MethodHandle" ∧ y_M_deriveRow.cls ≠ "java/lang/invoke/VarHandle" ∧ (parseMethodDescriptor y_M_deriveRow.desc).map (fun d => d.parameters.length) = some 1 := by decide +kernel
abbrev y_M_begin : MethodName := ⟨"DemandTermsModel", "begin", "()V"⟩
theorem q_M_begin : y_M_begin.cls = "DemandTermsModel" ∧ y_M_begin.cls ≠ "java/lang/invoke/MethodHandle" ∧ y_M_begin.cls ≠ "java/lang/invoke/VarHandle" ∧ (parseMethodDescriptor y_M_begin.desc).map (fun d => d.parameters.length) = some 0 := by decide +kernel
abbrev y_M_has : MethodName := ⟨"DemandTermsModel", "has", "(II)Z"⟩
theorem q_M_has : y_M_has.cls = "DemandTermsModel" ∧ y_M_has.cls ≠ "java/lang/invoke/MethodHandle" ∧ y_M_has.cls ≠ "java/lang/invoke/VarHandle" ∧ (parseMethodDescriptor y_M_has.desc).map (fun d => d.parameters.length) = some 2 := by decide +kernel
abbrev y_M_isAlike : MethodName := ⟨"DemandTermsModel", "isAlike", "(III)Z"⟩
theorem q_M_isAlike : y_M_isAlike.cls = "DemandTermsModel" ∧ y_M_isAlike.cls ≠ "java/lang/invoke/MethodHandle" ∧ y_M_isAlike.cls ≠ "java/lang/invoke/VarHandle" ∧ (parseMethodDescriptor y_M_isAlike.desc).map (fun d => d.parameters.length) = some 3 := by decide +kernel
abbrev y_M_addPart : MethodName := ⟨"DemandTermsModel", "addPart", "(I)V"⟩
theorem q_M_addPart : y_M_addPart.cls = "DemandTermsModel" ∧ y_M_addPart.cls ≠ "java/lang/invoke/MethodHandle" ∧ y_M_addPart.cls ≠ "java/lang/invoke/VarHandle" ∧ (parseMethodDescriptor y_M_addPart.desc).map (fun d => d.parameters.length) = some 1 := by decide +kernel
abbrev y_M_isFull : MethodName := ⟨"DemandTermsModel", "isFull", "(I)Z"⟩
theorem q_M_isFull : y_M_isFull.cls = "DemandTermsModel" ∧ y_M_isFull.cls ≠ "java/lang/invoke/MethodHandle" ∧ y_M_isFull.cls ≠ "java/lang/invoke/VarHandle" ∧ (parseMethodDescriptor y_M_isFull.desc).map (fun d => d.parameters.length) = some 1 := by decide +kernel
abbrev y_M_copy : MethodName := ⟨"DemandTermsModel", "copy", "(II)V"⟩
theorem q_M_copy : y_M_copy.cls = "DemandTermsModel" ∧ y_M_copy.cls ≠ "java/lang/invoke/MethodHandle" ∧ y_M_copy.cls ≠ "java/lang/invoke/VarHandle" ∧ (parseMethodDescriptor y_M_copy.desc).map (fun d => d.parameters.length) = some 2 := by decide +kernel
abbrev y_M_bar : MethodName := ⟨"DemandTermsModel", "bar", "(IJZ)I"⟩
theorem q_M_bar : y_M_bar.cls = "DemandTermsModel" ∧ y_M_bar.cls ≠ "java/lang/invoke/MethodHandle" ∧ y_M_bar.cls ≠ "java/lang/invoke/VarHandle" ∧ (parseMethodDescriptor y_M_bar.desc).map (fun d => d.parameters.length) = some 3 := by decide +kernel
abbrev y_M_learn : MethodName := ⟨"DemandTermsModel", "learn", "(III)I"⟩
theorem q_M_learn : y_M_learn.cls = "DemandTermsModel" ∧ y_M_learn.cls ≠ "java/lang/invoke/MethodHandle" ∧ y_M_learn.cls ≠ "java/lang/invoke/VarHandle" ∧ (parseMethodDescriptor y_M_learn.desc).map (fun d => d.parameters.length) = some 3 := by decide +kernel
abbrev y_M_isBar : MethodName := ⟨"DemandTermsModel", "isBar", "(I)Z"⟩
theorem q_M_isBar : y_M_isBar.cls = "DemandTermsModel" ∧ y_M_isBar.cls ≠ "java/lang/invoke/MethodHandle" ∧ y_M_isBar.cls ≠ "java/lang/invoke/VarHandle" ∧ (parseMethodDescriptor y_M_isBar.desc).map (fun d => d.parameters.length) = some 1 := by decide +kernel
abbrev y_M_partOf : MethodName := ⟨"DemandTermsModel", "partOf", "(II)I"⟩
theorem q_M_partOf : y_M_partOf.cls = "DemandTermsModel" ∧ y_M_partOf.cls ≠ "java/lang/invoke/MethodHandle" ∧ y_M_partOf.cls ≠ "java/lang/invoke/VarHandle" ∧ (parseMethodDescriptor y_M_partOf.desc).map (fun d => d.parameters.length) = some 2 := by decide +kernel
abbrev y_M_count : MethodName := ⟨"DemandTermsModel", "count", "()I"⟩
theorem q_M_count : y_M_count.cls = "DemandTermsModel" ∧ y_M_count.cls ≠ "java/lang/invoke/MethodHandle" ∧ y_M_count.cls ≠ "java/lang/invoke/VarHandle" ∧ (parseMethodDescriptor y_M_count.desc).map (fun d => d.parameters.length) = some 0 := by decide +kernel
abbrev y_M_terms : MethodName := ⟨"DemandTermsModel", "terms", "(I)I"⟩
theorem q_M_terms : y_M_terms.cls = "DemandTermsModel" ∧ y_M_terms.cls ≠ "java/lang/invoke/MethodHandle" ∧ y_M_terms.cls ≠ "java/lang/invoke/VarHandle" ∧ (parseMethodDescriptor y_M_terms.desc).map (fun d => d.parameters.length) = some 1 := by decide +kernel
abbrev y_M_part : MethodName := ⟨"DemandTermsModel", "part", "(III)I"⟩
theorem q_M_part : y_M_part.cls = "DemandTermsModel" ∧ y_M_part.cls ≠ "java/lang/invoke/MethodHandle" ∧ y_M_part.cls ≠ "java/lang/invoke/VarHandle" ∧ (parseMethodDescriptor y_M_part.desc).map (fun d => d.parameters.length) = some 3 := by decide +kernel
abbrev y_M_isPart : MethodName := ⟨"DemandTermsModel", "isPart", "(II)Z"⟩
theorem q_M_isPart : y_M_isPart.cls = "DemandTermsModel" ∧ y_M_isPart.cls ≠ "java/lang/invoke/MethodHandle" ∧ y_M_isPart.cls ≠ "java/lang/invoke/VarHandle" ∧ (parseMethodDescriptor y_M_isPart.desc).map (fun d => d.parameters.length) = some 2 := by decide +kernel
abbrev y_M_partSet : MethodName := ⟨"DemandTermsModel", "partSet", "(II)J"⟩
theorem q_M_partSet : y_M_partSet.cls = "DemandTermsModel" ∧ y_M_partSet.cls ≠ "java/lang/invoke/MethodHandle" ∧ y_M_partSet.cls ≠ "java/lang/invoke/VarHandle" ∧ (parseMethodDescriptor y_M_partSet.desc).map (fun d => d.parameters.length) = some 2 := by decide +kernel
abbrev y_M_choose : MethodName := ⟨"DemandTermsModel", "choose", "(I)Z"⟩
theorem q_M_choose : y_M_choose.cls = "DemandTermsModel" ∧ y_M_choose.cls ≠ "java/lang/invoke/MethodHandle" ∧ y_M_choose.cls ≠ "java/lang/invoke/VarHandle" ∧ (parseMethodDescriptor y_M_choose.desc).map (fun d => d.parameters.length) = some 1 := by decide +kernel
abbrev y_M_forget : MethodName := ⟨"DemandTermsModel", "forget", "()V"⟩
theorem q_M_forget : y_M_forget.cls = "DemandTermsModel" ∧ y_M_forget.cls ≠ "java/lang/invoke/MethodHandle" ∧ y_M_forget.cls ≠ "java/lang/invoke/VarHandle" ∧ (parseMethodDescriptor y_M_forget.desc).map (fun d => d.parameters.length) = some 0 := by decide +kernel
abbrev y_M_state : MethodName := ⟨"DemandTermsModel", "state", "(I)I"⟩
theorem q_M_state : y_M_state.cls = "DemandTermsModel" ∧ y_M_state.cls ≠ "java/lang/invoke/MethodHandle" ∧ y_M_state.cls ≠ "java/lang/invoke/VarHandle" ∧ (parseMethodDescriptor y_M_state.desc).map (fun d => d.parameters.length) = some 1 := by decide +kernel
abbrev y_M_look : MethodName := ⟨"DemandTermsModel", "look", "(I)I"⟩
theorem q_M_look : y_M_look.cls = "DemandTermsModel" ∧ y_M_look.cls ≠ "java/lang/invoke/MethodHandle" ∧ y_M_look.cls ≠ "java/lang/invoke/VarHandle" ∧ (parseMethodDescriptor y_M_look.desc).map (fun d => d.parameters.length) = some 1 := by decide +kernel
abbrev y_M_counted : MethodName := ⟨"DemandTermsModel", "counted", "(II)I"⟩
theorem q_M_counted : y_M_counted.cls = "DemandTermsModel" ∧ y_M_counted.cls ≠ "java/lang/invoke/MethodHandle" ∧ y_M_counted.cls ≠ "java/lang/invoke/VarHandle" ∧ (parseMethodDescriptor y_M_counted.desc).map (fun d => d.parameters.length) = some 2 := by decide +kernel
abbrev y_M_stateOf : MethodName := ⟨"DemandTermsModel", "stateOf", "(I)I"⟩
theorem q_M_stateOf : y_M_stateOf.cls = "DemandTermsModel" ∧ y_M_stateOf.cls ≠ "java/lang/invoke/MethodHandle" ∧ y_M_stateOf.cls ≠ "java/lang/invoke/VarHandle" ∧ (parseMethodDescriptor y_M_stateOf.desc).map (fun d => d.parameters.length) = some 1 := by decide +kernel
abbrev y_M_forced : MethodName := ⟨"DemandTermsModel", "forced", "(I)I"⟩
theorem q_M_forced : y_M_forced.cls = "DemandTermsModel" ∧ y_M_forced.cls ≠ "java/lang/invoke/MethodHandle" ∧ y_M_forced.cls ≠ "java/lang/invoke/VarHandle" ∧ (parseMethodDescriptor y_M_forced.desc).map (fun d => d.parameters.length) = some 1 := by decide +kernel
abbrev y_M_openPart : MethodName := ⟨"DemandTermsModel", "openPart", "(I)I"⟩
theorem q_M_openPart : y_M_openPart.cls = "DemandTermsModel" ∧ y_M_openPart.cls ≠ "java/lang/invoke/MethodHandle" ∧ y_M_openPart.cls ≠ "java/lang/invoke/VarHandle" ∧ (parseMethodDescriptor y_M_openPart.desc).map (fun d => d.parameters.length) = some 1 := by decide +kernel
abbrev y_M_spread : MethodName := ⟨"DemandTermsModel", "spread", "()I"⟩
theorem q_M_spread : y_M_spread.cls = "DemandTermsModel" ∧ y_M_spread.cls ≠ "java/lang/invoke/MethodHandle" ∧ y_M_spread.cls ≠ "java/lang/invoke/VarHandle" ∧ (parseMethodDescriptor y_M_spread.desc).map (fun d => d.parameters.length) = some 0 := by decide +kernel
abbrev y_M_firstKept : MethodName := ⟨"DemandTermsModel", "firstKept", "()I"⟩
theorem q_M_firstKept : y_M_firstKept.cls = "DemandTermsModel" ∧ y_M_firstKept.cls ≠ "java/lang/invoke/MethodHandle" ∧ y_M_firstKept.cls ≠ "java/lang/invoke/VarHandle" ∧ (parseMethodDescriptor y_M_firstKept.desc).map (fun d => d.parameters.length) = some 0 := by decide +kernel
abbrev y_M_chosen : MethodName := ⟨"DemandTermsModel", "chosen", "(II)I"⟩
theorem q_M_chosen : y_M_chosen.cls = "DemandTermsModel" ∧ y_M_chosen.cls ≠ "java/lang/invoke/MethodHandle" ∧ y_M_chosen.cls ≠ "java/lang/invoke/VarHandle" ∧ (parseMethodDescriptor y_M_chosen.desc).map (fun d => d.parameters.length) = some 2 := by decide +kernel
abbrev y_M_chosenSet : MethodName := ⟨"DemandTermsModel", "chosenSet", "(I)J"⟩
theorem q_M_chosenSet : y_M_chosenSet.cls = "DemandTermsModel" ∧ y_M_chosenSet.cls ≠ "java/lang/invoke/MethodHandle" ∧ y_M_chosenSet.cls ≠ "java/lang/invoke/VarHandle" ∧ (parseMethodDescriptor y_M_chosenSet.desc).map (fun d => d.parameters.length) = some 1 := by decide +kernel
abbrev y_M_print : MethodName := ⟨"DemandTermsModel", "print", "(I)I"⟩
theorem q_M_print : y_M_print.cls = "DemandTermsModel" ∧ y_M_print.cls ≠ "java/lang/invoke/MethodHandle" ∧ y_M_print.cls ≠ "java/lang/invoke/VarHandle" ∧ (parseMethodDescriptor y_M_print.desc).map (fun d => d.parameters.length) = some 1 := by decide +kernel
abbrev y_M_put : MethodName := ⟨"DemandTermsModel", "put", "(I)V"⟩
theorem q_M_put : y_M_put.cls = "DemandTermsModel" ∧ y_M_put.cls ≠ "java/lang/invoke/MethodHandle" ∧ y_M_put.cls ≠ "java/lang/invoke/VarHandle" ∧ (parseMethodDescriptor y_M_put.desc).map (fun d => d.parameters.length) = some 1 := by decide +kernel
abbrev y_M_putTerm : MethodName := ⟨"DemandTermsModel", "putTerm", "(I)V"⟩
theorem q_M_putTerm : y_M_putTerm.cls = "DemandTermsModel" ∧ y_M_putTerm.cls ≠ "java/lang/invoke/MethodHandle" ∧ y_M_putTerm.cls ≠ "java/lang/invoke/VarHandle" ∧ (parseMethodDescriptor y_M_putTerm.desc).map (fun d => d.parameters.length) = some 1 := by decide +kernel
abbrev y_M_putNumber : MethodName := ⟨"DemandTermsModel", "putNumber", "(I)V"⟩
theorem q_M_putNumber : y_M_putNumber.cls = "DemandTermsModel" ∧ y_M_putNumber.cls ≠ "java/lang/invoke/MethodHandle" ∧ y_M_putNumber.cls ≠ "java/lang/invoke/VarHandle" ∧ (parseMethodDescriptor y_M_putNumber.desc).map (fun d => d.parameters.length) = some 1 := by decide +kernel
abbrev y_M_at : MethodName := ⟨"DemandTermsModel", "at", "(I)I"⟩
theorem q_M_at : y_M_at.cls = "DemandTermsModel" ∧ y_M_at.cls ≠ "java/lang/invoke/MethodHandle" ∧ y_M_at.cls ≠ "java/lang/invoke/VarHandle" ∧ (parseMethodDescriptor y_M_at.desc).map (fun d => d.parameters.length) = some 1 := by decide +kernel
