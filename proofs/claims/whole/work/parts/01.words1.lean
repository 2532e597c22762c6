theorem k0 : (Jvm.Cond.initialized "DemandTermsLaw") ∈ AW := AW_t 0 (by decide +kernel) rfl
theorem k1 : (Jvm.Cond.initialized "DemandTerms") ∈ AW := AW_t 1 (by decide +kernel) rfl
theorem k2 : (Jvm.Cond.initialized "DemandTerms$Names") ∈ AW := AW_t 2 (by decide +kernel) rfl
theorem k3 : (Jvm.Cond.initialized "DemandTerms$TermTable") ∈ AW := AW_t 3 (by decide +kernel) rfl
theorem k4 : (Jvm.Cond.initialized "DemandTerms$NeedRows") ∈ AW := AW_t 4 (by decide +kernel) rfl
theorem k5 : (Jvm.Cond.initialized "DemandTerms$Clashes") ∈ AW := AW_t 5 (by decide +kernel) rfl
theorem k6 : (Jvm.Cond.initialized "DemandTerms$Page") ∈ AW := AW_t 6 (by decide +kernel) rfl
theorem k7 : (Jvm.Cond.initialized "DemandTermsModel") ∈ AW := AW_t 7 (by decide +kernel) rfl
theorem k8 : (Jvm.Cond.initialized "java/lang/Long") ∈ AW := AW_t 8 (by decide +kernel) rfl
theorem k9 : (Jvm.Cond.initialized "java/lang/Integer") ∈ AW := AW_t 9 (by decide +kernel) rfl
theorem k10 : (Jvm.Cond.classLink "DemandTermsLaw" (7 : Nat) "DemandTerms") ∈ AW := AW_t 10 (by decide +kernel) rfl
theorem k11 : (Jvm.Cond.instantiable "DemandTerms" (6 : Nat)) ∈ AW := AW_t 11 (by decide +kernel) rfl
theorem k12 : (Jvm.Cond.methodLink "DemandTermsLaw" (9 : Nat) ({ cls := "DemandTerms", name := "<init>", desc := "()V" } : Jvm.MethodName)) ∈ AW := AW_t 12 (by decide +kernel) rfl
theorem k13 : (Jvm.Cond.instanceMethod ({ cls := "DemandTerms", name := "<init>", desc := "()V" } : Jvm.MethodName)) ∈ AW := AW_t 13 (by decide +kernel) rfl
set_option maxRecDepth 100000 in
theorem k14 : (Jvm.Cond.code ({ cls := "DemandTerms", name := "<init>", desc := "()V" } : Jvm.MethodName) prog_1_method_1_code (1 : Nat) (Option.none : Option Jvm.ClassFile.FieldType)) ∈ AW := AW_t 14 rfl rfl
theorem k15 : (Jvm.Cond.methodLink "DemandTerms" (3 : Nat) ({ cls := "java/lang/Object", name := "<init>", desc := "()V" } : Jvm.MethodName)) ∈ AW := AW_t 15 (by decide +kernel) rfl
theorem k16 : (Jvm.Cond.instanceMethod ({ cls := "java/lang/Object", name := "<init>", desc := "()V" } : Jvm.MethodName)) ∈ AW := AW_t 16 (by decide +kernel) rfl
set_option maxRecDepth 100000 in
theorem k17 : (Jvm.Cond.code ({ cls := "java/lang/Object", name := "<init>", desc := "()V" } : Jvm.MethodName) object_method_1_code (1 : Nat) (Option.none : Option Jvm.ClassFile.FieldType)) ∈ AW := AW_t 17 rfl rfl
theorem k18 : (Jvm.Cond.classLink "DemandTerms" (9 : Nat) "DemandTerms$Names") ∈ AW := AW_t 18 (by decide +kernel) rfl
theorem k19 : (Jvm.Cond.instantiable "DemandTerms$Names" (2 : Nat)) ∈ AW := AW_t 19 (by decide +kernel) rfl
theorem k21 : (Jvm.Cond.instanceMethod ({ cls := "DemandTerms$Names", name := "<init>", desc := "()V" } : Jvm.MethodName)) ∈ AW := AW_t 21 (by decide +kernel) rfl
set_option maxRecDepth 100000 in
theorem k22 : (Jvm.Cond.code ({ cls := "DemandTerms$Names", name := "<init>", desc := "()V" } : Jvm.MethodName) prog_3_method_1_code (1 : Nat) (Option.none : Option Jvm.ClassFile.FieldType)) ∈ AW := AW_t 22 rfl rfl
theorem k23 : (Jvm.Cond.methodLink "DemandTerms$Names" (3 : Nat) ({ cls := "java/lang/Object", name := "<init>", desc := "()V" } : Jvm.MethodName)) ∈ AW := AW_t 23 (by decide +kernel) rfl
theorem k24 : (Jvm.Cond.fieldLink "DemandTerms$Names" (9 : Nat) "DemandTerms$Names" "places" "[J") ∈ AW := AW_t 24 (by decide +kernel) rfl
theorem k25 : (Jvm.Cond.fieldLink "DemandTerms$Names" (15 : Nat) "DemandTerms$Names" "size" "I") ∈ AW := AW_t 25 (by decide +kernel) rfl
theorem k31 : (Jvm.Cond.arrayClass Jvm.ClassFile.FieldType.long) ∈ AW := AW_t 31 (by decide +kernel) rfl
theorem k32 : (Jvm.Cond.classLink "DemandTerms" (16 : Nat) "DemandTerms$TermTable") ∈ AW := AW_t 32 (by decide +kernel) rfl
theorem k33 : (Jvm.Cond.instantiable "DemandTerms$TermTable" (3 : Nat)) ∈ AW := AW_t 33 (by decide +kernel) rfl
theorem k35 : (Jvm.Cond.instanceMethod ({ cls := "DemandTerms$TermTable", name := "<init>", desc := "()V" } : Jvm.MethodName)) ∈ AW := AW_t 35 (by decide +kernel) rfl
set_option maxRecDepth 100000 in
theorem k36 : (Jvm.Cond.code ({ cls := "DemandTerms$TermTable", name := "<init>", desc := "()V" } : Jvm.MethodName) prog_6_method_1_code (1 : Nat) (Option.none : Option Jvm.ClassFile.FieldType)) ∈ AW := AW_t 36 rfl rfl
theorem k37 : (Jvm.Cond.methodLink "DemandTerms$TermTable" (3 : Nat) ({ cls := "java/lang/Object", name := "<init>", desc := "()V" } : Jvm.MethodName)) ∈ AW := AW_t 37 (by decide +kernel) rfl
theorem k38 : (Jvm.Cond.fieldLink "DemandTerms$TermTable" (9 : Nat) "DemandTerms$TermTable" "name" "[I") ∈ AW := AW_t 38 (by decide +kernel) rfl
theorem k39 : (Jvm.Cond.fieldLink "DemandTerms$TermTable" (15 : Nat) "DemandTerms$TermTable" "places" "[J") ∈ AW := AW_t 39 (by decide +kernel) rfl
theorem k40 : (Jvm.Cond.fieldLink "DemandTerms$TermTable" (19 : Nat) "DemandTerms$TermTable" "size" "I") ∈ AW := AW_t 40 (by decide +kernel) rfl
theorem k48 : (Jvm.Cond.arrayClass Jvm.ClassFile.FieldType.int) ∈ AW := AW_t 48 (by decide +kernel) rfl
theorem k49 : (Jvm.Cond.classLink "DemandTerms" (23 : Nat) "DemandTerms$NeedRows") ∈ AW := AW_t 49 (by decide +kernel) rfl
theorem k50 : (Jvm.Cond.instantiable "DemandTerms$NeedRows" (6 : Nat)) ∈ AW := AW_t 50 (by decide +kernel) rfl
theorem k52 : (Jvm.Cond.instanceMethod ({ cls := "DemandTerms$NeedRows", name := "<init>", desc := "()V" } : Jvm.MethodName)) ∈ AW := AW_t 52 (by decide +kernel) rfl
set_option maxRecDepth 100000 in
theorem k53 : (Jvm.Cond.code ({ cls := "DemandTerms$NeedRows", name := "<init>", desc := "()V" } : Jvm.MethodName) prog_4_method_1_code (1 : Nat) (Option.none : Option Jvm.ClassFile.FieldType)) ∈ AW := AW_t 53 rfl rfl
theorem k54 : (Jvm.Cond.methodLink "DemandTerms$NeedRows" (3 : Nat) ({ cls := "java/lang/Object", name := "<init>", desc := "()V" } : Jvm.MethodName)) ∈ AW := AW_t 54 (by decide +kernel) rfl
theorem k55 : (Jvm.Cond.fieldLink "DemandTerms$NeedRows" (9 : Nat) "DemandTerms$NeedRows" "name" "[I") ∈ AW := AW_t 55 (by decide +kernel) rfl
theorem k56 : (Jvm.Cond.fieldLink "DemandTerms$NeedRows" (15 : Nat) "DemandTerms$NeedRows" "version" "[I") ∈ AW := AW_t 56 (by decide +kernel) rfl
theorem k57 : (Jvm.Cond.fieldLink "DemandTerms$NeedRows" (18 : Nat) "DemandTerms$NeedRows" "other" "[I") ∈ AW := AW_t 57 (by decide +kernel) rfl
theorem k58 : (Jvm.Cond.fieldLink "DemandTerms$NeedRows" (21 : Nat) "DemandTerms$NeedRows" "needed" "[J") ∈ AW := AW_t 58 (by decide +kernel) rfl
theorem k59 : (Jvm.Cond.fieldLink "DemandTerms$NeedRows" (25 : Nat) "DemandTerms$NeedRows" "kind" "[I") ∈ AW := AW_t 59 (by decide +kernel) rfl
theorem k60 : (Jvm.Cond.fieldLink "DemandTerms$NeedRows" (28 : Nat) "DemandTerms$NeedRows" "size" "I") ∈ AW := AW_t 60 (by decide +kernel) rfl
theorem k74 : (Jvm.Cond.classLink "DemandTerms" (30 : Nat) "DemandTerms$Clashes") ∈ AW := AW_t 74 (by decide +kernel) rfl
theorem k75 : (Jvm.Cond.instantiable "DemandTerms$Clashes" (5 : Nat)) ∈ AW := AW_t 75 (by decide +kernel) rfl
theorem k77 : (Jvm.Cond.instanceMethod ({ cls := "DemandTerms$Clashes", name := "<init>", desc := "()V" } : Jvm.MethodName)) ∈ AW := AW_t 77 (by decide +kernel) rfl
set_option maxRecDepth 100000 in
theorem k78 : (Jvm.Cond.code ({ cls := "DemandTerms$Clashes", name := "<init>", desc := "()V" } : Jvm.MethodName) prog_2_method_1_code (1 : Nat) (Option.none : Option Jvm.ClassFile.FieldType)) ∈ AW := AW_t 78 rfl rfl
theorem k79 : (Jvm.Cond.methodLink "DemandTerms$Clashes" (3 : Nat) ({ cls := "java/lang/Object", name := "<init>", desc := "()V" } : Jvm.MethodName)) ∈ AW := AW_t 79 (by decide +kernel) rfl
theorem k80 : (Jvm.Cond.fieldLink "DemandTerms$Clashes" (9 : Nat) "DemandTerms$Clashes" "held" "[I") ∈ AW := AW_t 80 (by decide +kernel) rfl
theorem k81 : (Jvm.Cond.fieldLink "DemandTerms$Clashes" (15 : Nat) "DemandTerms$Clashes" "places" "[J") ∈ AW := AW_t 81 (by decide +kernel) rfl
theorem k82 : (Jvm.Cond.fieldLink "DemandTerms$Clashes" (19 : Nat) "DemandTerms$Clashes" "source" "[I") ∈ AW := AW_t 82 (by decide +kernel) rfl
theorem k83 : (Jvm.Cond.fieldLink "DemandTerms$Clashes" (22 : Nat) "DemandTerms$Clashes" "run" "[J") ∈ AW := AW_t 83 (by decide +kernel) rfl
theorem k84 : (Jvm.Cond.fieldLink "DemandTerms$Clashes" (25 : Nat) "DemandTerms$Clashes" "size" "I") ∈ AW := AW_t 84 (by decide +kernel) rfl
theorem k96 : (Jvm.Cond.classLink "DemandTerms" (41 : Nat) "DemandTerms$Page") ∈ AW := AW_t 96 (by decide +kernel) rfl
theorem k97 : (Jvm.Cond.instantiable "DemandTerms$Page" (2 : Nat)) ∈ AW := AW_t 97 (by decide +kernel) rfl
theorem k99 : (Jvm.Cond.instanceMethod ({ cls := "DemandTerms$Page", name := "<init>", desc := "()V" } : Jvm.MethodName)) ∈ AW := AW_t 99 (by decide +kernel) rfl
set_option maxRecDepth 100000 in
theorem k100 : (Jvm.Cond.code ({ cls := "DemandTerms$Page", name := "<init>", desc := "()V" } : Jvm.MethodName) prog_5_method_1_code (1 : Nat) (Option.none : Option Jvm.ClassFile.FieldType)) ∈ AW := AW_t 100 rfl rfl
theorem k101 : (Jvm.Cond.methodLink "DemandTerms$Page" (3 : Nat) ({ cls := "java/lang/Object", name := "<init>", desc := "()V" } : Jvm.MethodName)) ∈ AW := AW_t 101 (by decide +kernel) rfl
theorem k102 : (Jvm.Cond.fieldLink "DemandTerms$Page" (9 : Nat) "DemandTerms$Page" "signs" "[C") ∈ AW := AW_t 102 (by decide +kernel) rfl
theorem k103 : (Jvm.Cond.fieldLink "DemandTerms$Page" (15 : Nat) "DemandTerms$Page" "length" "I") ∈ AW := AW_t 103 (by decide +kernel) rfl
theorem k109 : (Jvm.Cond.arrayClass Jvm.ClassFile.FieldType.char) ∈ AW := AW_t 109 (by decide +kernel) rfl
theorem k110 : (Jvm.Cond.fieldLink "DemandTerms" (12 : Nat) "DemandTerms" "names" "LDemandTerms$Names;") ∈ AW := AW_t 110 (by decide +kernel) rfl
theorem k111 : (Jvm.Cond.fieldLink "DemandTerms" (19 : Nat) "DemandTerms" "table" "LDemandTerms$TermTable;") ∈ AW := AW_t 111 (by decide +kernel) rfl
theorem k112 : (Jvm.Cond.fieldLink "DemandTerms" (26 : Nat) "DemandTerms" "rows" "LDemandTerms$NeedRows;") ∈ AW := AW_t 112 (by decide +kernel) rfl
theorem k113 : (Jvm.Cond.fieldLink "DemandTerms" (33 : Nat) "DemandTerms" "clashes" "LDemandTerms$Clashes;") ∈ AW := AW_t 113 (by decide +kernel) rfl
theorem k114 : (Jvm.Cond.fieldLink "DemandTerms" (37 : Nat) "DemandTerms" "choice" "[J") ∈ AW := AW_t 114 (by decide +kernel) rfl
theorem k115 : (Jvm.Cond.fieldLink "DemandTerms" (44 : Nat) "DemandTerms" "page" "LDemandTerms$Page;") ∈ AW := AW_t 115 (by decide +kernel) rfl
theorem k129 : (Jvm.Cond.methodLink "DemandTermsLaw" (13 : Nat) ({ cls := "DemandTerms", name := "versions", desc := "(I)I" } : Jvm.MethodName)) ∈ AW := AW_t 129 (by decide +kernel) rfl
theorem k130 : (Jvm.Cond.instanceMethod ({ cls := "DemandTerms", name := "versions", desc := "(I)I" } : Jvm.MethodName)) ∈ AW := AW_t 130 (by decide +kernel) rfl
theorem k131 : (Jvm.Cond.selects "DemandTerms" ({ cls := "DemandTerms", name := "versions", desc := "(I)I" } : Jvm.MethodName) ({ cls := "DemandTerms", name := "versions", desc := "(I)I" } : Jvm.MethodName)) ∈ AW := AW_t 131 (by decide +kernel) rfl
set_option maxRecDepth 100000 in
theorem k132 : (Jvm.Cond.code ({ cls := "DemandTerms", name := "versions", desc := "(I)I" } : Jvm.MethodName) prog_1_method_2_code (3 : Nat) (Option.some Jvm.ClassFile.FieldType.int)) ∈ AW := AW_t 132 rfl rfl
theorem k133 : (Jvm.Cond.methodLink "DemandTerms" (48 : Nat) ({ cls := "DemandTerms$Names", name := "add", desc := "(I)I" } : Jvm.MethodName)) ∈ AW := AW_t 133 (by decide +kernel) rfl
theorem k134 : (Jvm.Cond.instanceMethod ({ cls := "DemandTerms$Names", name := "add", desc := "(I)I" } : Jvm.MethodName)) ∈ AW := AW_t 134 (by decide +kernel) rfl
theorem k135 : (Jvm.Cond.selects "DemandTerms$Names" ({ cls := "DemandTerms$Names", name := "add", desc := "(I)I" } : Jvm.MethodName) ({ cls := "DemandTerms$Names", name := "add", desc := "(I)I" } : Jvm.MethodName)) ∈ AW := AW_t 135 (by decide +kernel) rfl
set_option maxRecDepth 100000 in
theorem k136 : (Jvm.Cond.code ({ cls := "DemandTerms$Names", name := "add", desc := "(I)I" } : Jvm.MethodName) prog_3_method_3_code (2 : Nat) (Option.some Jvm.ClassFile.FieldType.int)) ∈ AW := AW_t 136 rfl rfl
theorem k137 : (Jvm.Cond.constantLong "DemandTerms$Names" (19 : Nat) (281474976710656 : Int64)) ∈ AW := AW_t 137 (by decide +kernel) rfl
theorem k138 : (Jvm.Cond.methodLink "DemandTerms" (52 : Nat) ({ cls := "DemandTerms$Names", name := "everywhere", desc := "(I)J" } : Jvm.MethodName)) ∈ AW := AW_t 138 (by decide +kernel) rfl
theorem k139 : (Jvm.Cond.instanceMethod ({ cls := "DemandTerms$Names", name := "everywhere", desc := "(I)J" } : Jvm.MethodName)) ∈ AW := AW_t 139 (by decide +kernel) rfl
theorem k140 : (Jvm.Cond.selects "DemandTerms$Names" ({ cls := "DemandTerms$Names", name := "everywhere", desc := "(I)J" } : Jvm.MethodName) ({ cls := "DemandTerms$Names", name := "everywhere", desc := "(I)J" } : Jvm.MethodName)) ∈ AW := AW_t 140 (by decide +kernel) rfl
set_option maxRecDepth 100000 in
theorem k141 : (Jvm.Cond.code ({ cls := "DemandTerms$Names", name := "everywhere", desc := "(I)J" } : Jvm.MethodName) prog_3_method_6_code (2 : Nat) (Option.some Jvm.ClassFile.FieldType.long)) ∈ AW := AW_t 141 rfl rfl
theorem k142 : (Jvm.Cond.methodLink "DemandTerms$Names" (29 : Nat) ({ cls := "DemandTerms$Names", name := "has", desc := "(I)Z" } : Jvm.MethodName)) ∈ AW := AW_t 142 (by decide +kernel) rfl
theorem k143 : (Jvm.Cond.instanceMethod ({ cls := "DemandTerms$Names", name := "has", desc := "(I)Z" } : Jvm.MethodName)) ∈ AW := AW_t 143 (by decide +kernel) rfl
theorem k144 : (Jvm.Cond.selects "DemandTerms$Names" ({ cls := "DemandTerms$Names", name := "has", desc := "(I)Z" } : Jvm.MethodName) ({ cls := "DemandTerms$Names", name := "has", desc := "(I)Z" } : Jvm.MethodName)) ∈ AW := AW_t 144 (by decide +kernel) rfl
set_option maxRecDepth 100000 in
theorem k145 : (Jvm.Cond.code ({ cls := "DemandTerms$Names", name := "has", desc := "(I)Z" } : Jvm.MethodName) prog_3_method_4_code (2 : Nat) (Option.some Jvm.ClassFile.FieldType.boolean)) ∈ AW := AW_t 145 rfl rfl
theorem k146 : (Jvm.Cond.methodLink "DemandTermsLaw" (20 : Nat) ({ cls := "DemandTerms", name := "term", desc := "(IJZ)I" } : Jvm.MethodName)) ∈ AW := AW_t 146 (by decide +kernel) rfl
theorem k147 : (Jvm.Cond.instanceMethod ({ cls := "DemandTerms", name := "term", desc := "(IJZ)I" } : Jvm.MethodName)) ∈ AW := AW_t 147 (by decide +kernel) rfl
theorem k148 : (Jvm.Cond.selects "DemandTerms" ({ cls := "DemandTerms", name := "term", desc := "(IJZ)I" } : Jvm.MethodName) ({ cls := "DemandTerms", name := "term", desc := "(IJZ)I" } : Jvm.MethodName)) ∈ AW := AW_t 148 (by decide +kernel) rfl
set_option maxRecDepth 100000 in
theorem k149 : (Jvm.Cond.code ({ cls := "DemandTerms", name := "term", desc := "(IJZ)I" } : Jvm.MethodName) prog_1_method_3_code (5 : Nat) (Option.some Jvm.ClassFile.FieldType.int)) ∈ AW := AW_t 149 rfl rfl
theorem k150 : (Jvm.Cond.methodLink "DemandTerms" (56 : Nat) ({ cls := "DemandTerms$Names", name := "has", desc := "(I)Z" } : Jvm.MethodName)) ∈ AW := AW_t 150 (by decide +kernel) rfl
theorem k151 : (Jvm.Cond.methodLink "DemandTerms" (60 : Nat) ({ cls := "DemandTerms$Names", name := "placesOf", desc := "(IJZ)J" } : Jvm.MethodName)) ∈ AW := AW_t 151 (by decide +kernel) rfl
theorem k152 : (Jvm.Cond.instanceMethod ({ cls := "DemandTerms$Names", name := "placesOf", desc := "(IJZ)J" } : Jvm.MethodName)) ∈ AW := AW_t 152 (by decide +kernel) rfl
theorem k153 : (Jvm.Cond.selects "DemandTerms$Names" ({ cls := "DemandTerms$Names", name := "placesOf", desc := "(IJZ)J" } : Jvm.MethodName) ({ cls := "DemandTerms$Names", name := "placesOf", desc := "(IJZ)J" } : Jvm.MethodName)) ∈ AW := AW_t 153 (by decide +kernel) rfl
set_option maxRecDepth 100000 in
theorem k154 : (Jvm.Cond.code ({ cls := "DemandTerms$Names", name := "placesOf", desc := "(IJZ)J" } : Jvm.MethodName) prog_3_method_7_code (7 : Nat) (Option.some Jvm.ClassFile.FieldType.long)) ∈ AW := AW_t 154 rfl rfl
theorem k155 : (Jvm.Cond.methodLink "DemandTerms$Names" (21 : Nat) ({ cls := "DemandTerms$Names", name := "everywhere", desc := "(I)J" } : Jvm.MethodName)) ∈ AW := AW_t 155 (by decide +kernel) rfl
theorem k156 : (Jvm.Cond.constantLong "DemandTerms$Names" (33 : Nat) (-281474976710657 : Int64)) ∈ AW := AW_t 156 (by decide +kernel) rfl
theorem k157 : (Jvm.Cond.methodLink "DemandTerms" (64 : Nat) ({ cls := "DemandTerms$TermTable", name := "add", desc := "(IJ)I" } : Jvm.MethodName)) ∈ AW := AW_t 157 (by decide +kernel) rfl
theorem k158 : (Jvm.Cond.instanceMethod ({ cls := "DemandTerms$TermTable", name := "add", desc := "(IJ)I" } : Jvm.MethodName)) ∈ AW := AW_t 158 (by decide +kernel) rfl
theorem k159 : (Jvm.Cond.selects "DemandTerms$TermTable" ({ cls := "DemandTerms$TermTable", name := "add", desc := "(IJ)I" } : Jvm.MethodName) ({ cls := "DemandTerms$TermTable", name := "add", desc := "(IJ)I" } : Jvm.MethodName)) ∈ AW := AW_t 159 (by decide +kernel) rfl
set_option maxRecDepth 100000 in
theorem k160 : (Jvm.Cond.code ({ cls := "DemandTerms$TermTable", name := "add", desc := "(IJ)I" } : Jvm.MethodName) prog_6_method_3_code (4 : Nat) (Option.some Jvm.ClassFile.FieldType.int)) ∈ AW := AW_t 160 rfl rfl
theorem k161 : (Jvm.Cond.methodLink "DemandTermsLaw" (25 : Nat) ({ cls := "DemandTerms", name := "both", desc := "(IIZ)I" } : Jvm.MethodName)) ∈ AW := AW_t 161 (by decide +kernel) rfl
theorem k162 : (Jvm.Cond.instanceMethod ({ cls := "DemandTerms", name := "both", desc := "(IIZ)I" } : Jvm.MethodName)) ∈ AW := AW_t 162 (by decide +kernel) rfl
theorem k163 : (Jvm.Cond.selects "DemandTerms" ({ cls := "DemandTerms", name := "both", desc := "(IIZ)I" } : Jvm.MethodName) ({ cls := "DemandTerms", name := "both", desc := "(IIZ)I" } : Jvm.MethodName)) ∈ AW := AW_t 163 (by decide +kernel) rfl
set_option maxRecDepth 100000 in
theorem k164 : (Jvm.Cond.code ({ cls := "DemandTerms", name := "both", desc := "(IIZ)I" } : Jvm.MethodName) prog_1_method_4_code (8 : Nat) (Option.some Jvm.ClassFile.FieldType.int)) ∈ AW := AW_t 164 rfl rfl
theorem k165 : (Jvm.Cond.methodLink "DemandTerms" (67 : Nat) ({ cls := "DemandTerms$TermTable", name := "has", desc := "(I)Z" } : Jvm.MethodName)) ∈ AW := AW_t 165 (by decide +kernel) rfl
theorem k166 : (Jvm.Cond.instanceMethod ({ cls := "DemandTerms$TermTable", name := "has", desc := "(I)Z" } : Jvm.MethodName)) ∈ AW := AW_t 166 (by decide +kernel) rfl
theorem k167 : (Jvm.Cond.selects "DemandTerms$TermTable" ({ cls := "DemandTerms$TermTable", name := "has", desc := "(I)Z" } : Jvm.MethodName) ({ cls := "DemandTerms$TermTable", name := "has", desc := "(I)Z" } : Jvm.MethodName)) ∈ AW := AW_t 167 (by decide +kernel) rfl
set_option maxRecDepth 100000 in
theorem k168 : (Jvm.Cond.code ({ cls := "DemandTerms$TermTable", name := "has", desc := "(I)Z" } : Jvm.MethodName) prog_6_method_2_code (2 : Nat) (Option.some Jvm.ClassFile.FieldType.boolean)) ∈ AW := AW_t 168 rfl rfl
theorem k169 : (Jvm.Cond.methodLink "DemandTerms" (68 : Nat) ({ cls := "DemandTerms$TermTable", name := "nameOf", desc := "(I)I" } : Jvm.MethodName)) ∈ AW := AW_t 169 (by decide +kernel) rfl
theorem k170 : (Jvm.Cond.instanceMethod ({ cls := "DemandTerms$TermTable", name := "nameOf", desc := "(I)I" } : Jvm.MethodName)) ∈ AW := AW_t 170 (by decide +kernel) rfl
theorem k171 : (Jvm.Cond.selects "DemandTerms$TermTable" ({ cls := "DemandTerms$TermTable", name := "nameOf", desc := "(I)I" } : Jvm.MethodName) ({ cls := "DemandTerms$TermTable", name := "nameOf", desc := "(I)I" } : Jvm.MethodName)) ∈ AW := AW_t 171 (by decide +kernel) rfl
set_option maxRecDepth 100000 in
theorem k172 : (Jvm.Cond.code ({ cls := "DemandTerms$TermTable", name := "nameOf", desc := "(I)I" } : Jvm.MethodName) prog_6_method_4_code (2 : Nat) (Option.some Jvm.ClassFile.FieldType.int)) ∈ AW := AW_t 172 rfl rfl
theorem k173 : (Jvm.Cond.methodLink "DemandTerms$TermTable" (23 : Nat) ({ cls := "DemandTerms$TermTable", name := "has", desc := "(I)Z" } : Jvm.MethodName)) ∈ AW := AW_t 173 (by decide +kernel) rfl
theorem k174 : (Jvm.Cond.methodLink "DemandTerms" (71 : Nat) ({ cls := "DemandTerms$TermTable", name := "placesOf", desc := "(I)J" } : Jvm.MethodName)) ∈ AW := AW_t 174 (by decide +kernel) rfl
theorem k175 : (Jvm.Cond.instanceMethod ({ cls := "DemandTerms$TermTable", name := "placesOf", desc := "(I)J" } : Jvm.MethodName)) ∈ AW := AW_t 175 (by decide +kernel) rfl
theorem k176 : (Jvm.Cond.selects "DemandTerms$TermTable" ({ cls := "DemandTerms$TermTable", name := "placesOf", desc := "(I)J" } : Jvm.MethodName) ({ cls := "DemandTerms$TermTable", name := "placesOf", desc := "(I)J" } : Jvm.MethodName)) ∈ AW := AW_t 176 (by decide +kernel) rfl
set_option maxRecDepth 100000 in
theorem k177 : (Jvm.Cond.code ({ cls := "DemandTerms$TermTable", name := "placesOf", desc := "(I)J" } : Jvm.MethodName) prog_6_method_5_code (2 : Nat) (Option.some Jvm.ClassFile.FieldType.long)) ∈ AW := AW_t 177 rfl rfl
theorem k178 : (Jvm.Cond.methodLink "DemandTermsLaw" (30 : Nat) ({ cls := "DemandTerms", name := "relate", desc := "(II)I" } : Jvm.MethodName)) ∈ AW := AW_t 178 (by decide +kernel) rfl
theorem k179 : (Jvm.Cond.instanceMethod ({ cls := "DemandTerms", name := "relate", desc := "(II)I" } : Jvm.MethodName)) ∈ AW := AW_t 179 (by decide +kernel) rfl
theorem k180 : (Jvm.Cond.selects "DemandTerms" ({ cls := "DemandTerms", name := "relate", desc := "(II)I" } : Jvm.MethodName) ({ cls := "DemandTerms", name := "relate", desc := "(II)I" } : Jvm.MethodName)) ∈ AW := AW_t 180 (by decide +kernel) rfl
set_option maxRecDepth 100000 in
theorem k181 : (Jvm.Cond.code ({ cls := "DemandTerms", name := "relate", desc := "(II)I" } : Jvm.MethodName) prog_1_method_5_code (5 : Nat) (Option.some Jvm.ClassFile.FieldType.int)) ∈ AW := AW_t 181 rfl rfl
theorem k182 : (Jvm.Cond.methodLink "DemandTerms" (73 : Nat) ({ cls := "DemandTerms", name := "relation", desc := "(JJ)I" } : Jvm.MethodName)) ∈ AW := AW_t 182 (by decide +kernel) rfl
theorem k183 : (Jvm.Cond.static ({ cls := "DemandTerms", name := "relation", desc := "(JJ)I" } : Jvm.MethodName)) ∈ AW := AW_t 183 (by decide +kernel) rfl
set_option maxRecDepth 100000 in
theorem k184 : (Jvm.Cond.code ({ cls := "DemandTerms", name := "relation", desc := "(JJ)I" } : Jvm.MethodName) prog_1_method_39_code (4 : Nat) (Option.some Jvm.ClassFile.FieldType.int)) ∈ AW := AW_t 184 rfl rfl
theorem k185 : (Jvm.Cond.constantLong "DemandTerms" (219 : Nat) (-1 : Int64)) ∈ AW := AW_t 185 (by decide +kernel) rfl
theorem k186 : (Jvm.Cond.methodLink "DemandTermsLaw" (35 : Nat) ({ cls := "DemandTerms", name := "about", desc := "(II)I" } : Jvm.MethodName)) ∈ AW := AW_t 186 (by decide +kernel) rfl
theorem k187 : (Jvm.Cond.instanceMethod ({ cls := "DemandTerms", name := "about", desc := "(II)I" } : Jvm.MethodName)) ∈ AW := AW_t 187 (by decide +kernel) rfl
theorem k188 : (Jvm.Cond.selects "DemandTerms" ({ cls := "DemandTerms", name := "about", desc := "(II)I" } : Jvm.MethodName) ({ cls := "DemandTerms", name := "about", desc := "(II)I" } : Jvm.MethodName)) ∈ AW := AW_t 188 (by decide +kernel) rfl
set_option maxRecDepth 100000 in
theorem k189 : (Jvm.Cond.code ({ cls := "DemandTerms", name := "about", desc := "(II)I" } : Jvm.MethodName) prog_1_method_6_code (3 : Nat) (Option.some Jvm.ClassFile.FieldType.int)) ∈ AW := AW_t 189 rfl rfl
theorem k190 : (Jvm.Cond.methodLink "DemandTerms" (77 : Nat) ({ cls := "DemandTerms", name := "describe", desc := "(IJI)I" } : Jvm.MethodName)) ∈ AW := AW_t 190 (by decide +kernel) rfl
theorem k192 : (Jvm.Cond.instanceMethod ({ cls := "DemandTerms", name := "describe", desc := "(IJI)I" } : Jvm.MethodName)) ∈ AW := AW_t 192 (by decide +kernel) rfl
set_option maxRecDepth 100000 in
theorem k193 : (Jvm.Cond.code ({ cls := "DemandTerms", name := "describe", desc := "(IJI)I" } : Jvm.MethodName) prog_1_method_25_code (5 : Nat) (Option.some Jvm.ClassFile.FieldType.int)) ∈ AW := AW_t 193 rfl rfl
theorem k194 : (Jvm.Cond.methodLink "DemandTerms" (165 : Nat) ({ cls := "DemandTerms", name := "isWanted", desc := "(J)Z" } : Jvm.MethodName)) ∈ AW := AW_t 194 (by decide +kernel) rfl
theorem k195 : (Jvm.Cond.static ({ cls := "DemandTerms", name := "isWanted", desc := "(J)Z" } : Jvm.MethodName)) ∈ AW := AW_t 195 (by decide +kernel) rfl
set_option maxRecDepth 100000 in
theorem k196 : (Jvm.Cond.code ({ cls := "DemandTerms", name := "isWanted", desc := "(J)Z" } : Jvm.MethodName) prog_1_method_37_code (2 : Nat) (Option.some Jvm.ClassFile.FieldType.boolean)) ∈ AW := AW_t 196 rfl rfl
theorem k197 : (Jvm.Cond.constantLong "DemandTerms" (217 : Nat) (281474976710656 : Int64)) ∈ AW := AW_t 197 (by decide +kernel) rfl
theorem k198 : (Jvm.Cond.methodLink "DemandTerms" (81 : Nat) ({ cls := "DemandTerms$Names", name := "setOf", desc := "(IJ)J" } : Jvm.MethodName)) ∈ AW := AW_t 198 (by decide +kernel) rfl
theorem k199 : (Jvm.Cond.instanceMethod ({ cls := "DemandTerms$Names", name := "setOf", desc := "(IJ)J" } : Jvm.MethodName)) ∈ AW := AW_t 199 (by decide +kernel) rfl
theorem k200 : (Jvm.Cond.selects "DemandTerms$Names" ({ cls := "DemandTerms$Names", name := "setOf", desc := "(IJ)J" } : Jvm.MethodName) ({ cls := "DemandTerms$Names", name := "setOf", desc := "(IJ)J" } : Jvm.MethodName)) ∈ AW := AW_t 200 (by decide +kernel) rfl
set_option maxRecDepth 100000 in
theorem k201 : (Jvm.Cond.code ({ cls := "DemandTerms$Names", name := "setOf", desc := "(IJ)J" } : Jvm.MethodName) prog_3_method_8_code (4 : Nat) (Option.some Jvm.ClassFile.FieldType.long)) ∈ AW := AW_t 201 rfl rfl
theorem k203 : (Jvm.Cond.methodLink "DemandTerms" (169 : Nat) ({ cls := "java/lang/Long", name := "bitCount", desc := "(J)I" } : Jvm.MethodName)) ∈ AW := AW_t 203 (by decide +kernel) rfl
theorem k204 : (Jvm.Cond.static ({ cls := "java/lang/Long", name := "bitCount", desc := "(J)I" } : Jvm.MethodName)) ∈ AW := AW_t 204 (by decide +kernel) rfl
set_option maxRecDepth 100000 in
theorem k205 : (Jvm.Cond.code ({ cls := "java/lang/Long", name := "bitCount", desc := "(J)I" } : Jvm.MethodName) prog_10_method_50_code (2 : Nat) (Option.some Jvm.ClassFile.FieldType.int)) ∈ AW := AW_t 205 rfl rfl
theorem k206 : (Jvm.Cond.constantLong "java/lang/Long" (314 : Nat) (6148914691236517205 : Int64)) ∈ AW := AW_t 206 (by decide +kernel) rfl
theorem k207 : (Jvm.Cond.constantLong "java/lang/Long" (316 : Nat) (3689348814741910323 : Int64)) ∈ AW := AW_t 207 (by decide +kernel) rfl
theorem k208 : (Jvm.Cond.constantLong "java/lang/Long" (318 : Nat) (1085102592571150095 : Int64)) ∈ AW := AW_t 208 (by decide +kernel) rfl
theorem k209 : (Jvm.Cond.methodLink "DemandTermsLaw" (39 : Nat) ({ cls := "DemandTerms", name := "set", desc := "(I)J" } : Jvm.MethodName)) ∈ AW := AW_t 209 (by decide +kernel) rfl
theorem k210 : (Jvm.Cond.instanceMethod ({ cls := "DemandTerms", name := "set", desc := "(I)J" } : Jvm.MethodName)) ∈ AW := AW_t 210 (by decide +kernel) rfl
theorem k211 : (Jvm.Cond.selects "DemandTerms" ({ cls := "DemandTerms", name := "set", desc := "(I)J" } : Jvm.MethodName) ({ cls := "DemandTerms", name := "set", desc := "(I)J" } : Jvm.MethodName)) ∈ AW := AW_t 211 (by decide +kernel) rfl
set_option maxRecDepth 100000 in
theorem k212 : (Jvm.Cond.code ({ cls := "DemandTerms", name := "set", desc := "(I)J" } : Jvm.MethodName) prog_1_method_7_code (2 : Nat) (Option.some Jvm.ClassFile.FieldType.long)) ∈ AW := AW_t 212 rfl rfl
theorem k213 : (Jvm.Cond.methodLink "DemandTermsLaw" (44 : Nat) ({ cls := "DemandTerms", name := "needs", desc := "(IIIJI)Z" } : Jvm.MethodName)) ∈ AW := AW_t 213 (by decide +kernel) rfl
theorem k214 : (Jvm.Cond.instanceMethod ({ cls := "DemandTerms", name := "needs", desc := "(IIIJI)Z" } : Jvm.MethodName)) ∈ AW := AW_t 214 (by decide +kernel) rfl
theorem k215 : (Jvm.Cond.selects "DemandTerms" ({ cls := "DemandTerms", name := "needs", desc := "(IIIJI)Z" } : Jvm.MethodName) ({ cls := "DemandTerms", name := "needs", desc := "(IIIJI)Z" } : Jvm.MethodName)) ∈ AW := AW_t 215 (by decide +kernel) rfl
set_option maxRecDepth 100000 in
theorem k216 : (Jvm.Cond.code ({ cls := "DemandTerms", name := "needs", desc := "(IIIJI)Z" } : Jvm.MethodName) prog_1_method_8_code (7 : Nat) (Option.some Jvm.ClassFile.FieldType.boolean)) ∈ AW := AW_t 216 rfl rfl
theorem k217 : (Jvm.Cond.methodLink "DemandTerms" (85 : Nat) ({ cls := "DemandTerms$Names", name := "hasVersion", desc := "(II)Z" } : Jvm.MethodName)) ∈ AW := AW_t 217 (by decide +kernel) rfl
theorem k218 : (Jvm.Cond.instanceMethod ({ cls := "DemandTerms$Names", name := "hasVersion", desc := "(II)Z" } : Jvm.MethodName)) ∈ AW := AW_t 218 (by decide +kernel) rfl
theorem k219 : (Jvm.Cond.selects "DemandTerms$Names" ({ cls := "DemandTerms$Names", name := "hasVersion", desc := "(II)Z" } : Jvm.MethodName) ({ cls := "DemandTerms$Names", name := "hasVersion", desc := "(II)Z" } : Jvm.MethodName)) ∈ AW := AW_t 219 (by decide +kernel) rfl
set_option maxRecDepth 100000 in
theorem k220 : (Jvm.Cond.code ({ cls := "DemandTerms$Names", name := "hasVersion", desc := "(II)Z" } : Jvm.MethodName) prog_3_method_5_code (3 : Nat) (Option.some Jvm.ClassFile.FieldType.boolean)) ∈ AW := AW_t 220 rfl rfl
theorem k222 : (Jvm.Cond.static ({ cls := "DemandTerms", name := "hasVersion", desc := "(JI)Z" } : Jvm.MethodName)) ∈ AW := AW_t 222 (by decide +kernel) rfl
set_option maxRecDepth 100000 in
theorem k223 : (Jvm.Cond.code ({ cls := "DemandTerms", name := "hasVersion", desc := "(JI)Z" } : Jvm.MethodName) prog_1_method_38_code (3 : Nat) (Option.some Jvm.ClassFile.FieldType.boolean)) ∈ AW := AW_t 223 rfl rfl
theorem k224 : (Jvm.Cond.methodLink "DemandTerms" (89 : Nat) ({ cls := "DemandTerms$NeedRows", name := "add", desc := "(IIIJI)Z" } : Jvm.MethodName)) ∈ AW := AW_t 224 (by decide +kernel) rfl
theorem k225 : (Jvm.Cond.instanceMethod ({ cls := "DemandTerms$NeedRows", name := "add", desc := "(IIIJI)Z" } : Jvm.MethodName)) ∈ AW := AW_t 225 (by decide +kernel) rfl
theorem k226 : (Jvm.Cond.selects "DemandTerms$NeedRows" ({ cls := "DemandTerms$NeedRows", name := "add", desc := "(IIIJI)Z" } : Jvm.MethodName) ({ cls := "DemandTerms$NeedRows", name := "add", desc := "(IIIJI)Z" } : Jvm.MethodName)) ∈ AW := AW_t 226 (by decide +kernel) rfl
set_option maxRecDepth 100000 in
theorem k227 : (Jvm.Cond.code ({ cls := "DemandTerms$NeedRows", name := "add", desc := "(IIIJI)Z" } : Jvm.MethodName) prog_4_method_3_code (7 : Nat) (Option.some Jvm.ClassFile.FieldType.boolean)) ∈ AW := AW_t 227 rfl rfl
theorem k228 : (Jvm.Cond.methodLink "DemandTermsLaw" (49 : Nat) ({ cls := "DemandTerms", name := "derive", desc := "(II)I" } : Jvm.MethodName)) ∈ AW := AW_t 228 (by decide +kernel) rfl
theorem k229 : (Jvm.Cond.instanceMethod ({ cls := "DemandTerms", name := "derive", desc := "(II)I" } : Jvm.MethodName)) ∈ AW := AW_t 229 (by decide +kernel) rfl
theorem k230 : (Jvm.Cond.selects "DemandTerms" ({ cls := "DemandTerms", name := "derive", desc := "(II)I" } : Jvm.MethodName) ({ cls := "DemandTerms", name := "derive", desc := "(II)I" } : Jvm.MethodName)) ∈ AW := AW_t 230 (by decide +kernel) rfl
set_option maxRecDepth 100000 in
theorem k231 : (Jvm.Cond.code ({ cls := "DemandTerms", name := "derive", desc := "(II)I" } : Jvm.MethodName) prog_1_method_9_code (5 : Nat) (Option.some Jvm.ClassFile.FieldType.int)) ∈ AW := AW_t 231 rfl rfl
theorem k232 : (Jvm.Cond.methodLink "DemandTerms" (92 : Nat) ({ cls := "DemandTerms$Clashes", name := "size", desc := "()I" } : Jvm.MethodName)) ∈ AW := AW_t 232 (by decide +kernel) rfl
theorem k233 : (Jvm.Cond.instanceMethod ({ cls := "DemandTerms$Clashes", name := "size", desc := "()I" } : Jvm.MethodName)) ∈ AW := AW_t 233 (by decide +kernel) rfl
theorem k234 : (Jvm.Cond.selects "DemandTerms$Clashes" ({ cls := "DemandTerms$Clashes", name := "size", desc := "()I" } : Jvm.MethodName) ({ cls := "DemandTerms$Clashes", name := "size", desc := "()I" } : Jvm.MethodName)) ∈ AW := AW_t 234 (by decide +kernel) rfl
set_option maxRecDepth 100000 in
theorem k235 : (Jvm.Cond.code ({ cls := "DemandTerms$Clashes", name := "size", desc := "()I" } : Jvm.MethodName) prog_2_method_2_code (1 : Nat) (Option.some Jvm.ClassFile.FieldType.int)) ∈ AW := AW_t 235 rfl rfl
theorem k236 : (Jvm.Cond.methodLink "DemandTerms" (96 : Nat) ({ cls := "DemandTerms$NeedRows", name := "size", desc := "()I" } : Jvm.MethodName)) ∈ AW := AW_t 236 (by decide +kernel) rfl
theorem k237 : (Jvm.Cond.instanceMethod ({ cls := "DemandTerms$NeedRows", name := "size", desc := "()I" } : Jvm.MethodName)) ∈ AW := AW_t 237 (by decide +kernel) rfl
theorem k238 : (Jvm.Cond.selects "DemandTerms$NeedRows" ({ cls := "DemandTerms$NeedRows", name := "size", desc := "()I" } : Jvm.MethodName) ({ cls := "DemandTerms$NeedRows", name := "size", desc := "()I" } : Jvm.MethodName)) ∈ AW := AW_t 238 (by decide +kernel) rfl
set_option maxRecDepth 100000 in
theorem k239 : (Jvm.Cond.code ({ cls := "DemandTerms$NeedRows", name := "size", desc := "()I" } : Jvm.MethodName) prog_4_method_2_code (1 : Nat) (Option.some Jvm.ClassFile.FieldType.int)) ∈ AW := AW_t 239 rfl rfl
theorem k240 : (Jvm.Cond.methodLink "DemandTerms" (97 : Nat) ({ cls := "DemandTerms$NeedRows", name := "isOf", desc := "(III)Z" } : Jvm.MethodName)) ∈ AW := AW_t 240 (by decide +kernel) rfl
theorem k241 : (Jvm.Cond.instanceMethod ({ cls := "DemandTerms$NeedRows", name := "isOf", desc := "(III)Z" } : Jvm.MethodName)) ∈ AW := AW_t 241 (by decide +kernel) rfl
theorem k242 : (Jvm.Cond.selects "DemandTerms$NeedRows" ({ cls := "DemandTerms$NeedRows", name := "isOf", desc := "(III)Z" } : Jvm.MethodName) ({ cls := "DemandTerms$NeedRows", name := "isOf", desc := "(III)Z" } : Jvm.MethodName)) ∈ AW := AW_t 242 (by decide +kernel) rfl
set_option maxRecDepth 100000 in
theorem k243 : (Jvm.Cond.code ({ cls := "DemandTerms$NeedRows", name := "isOf", desc := "(III)Z" } : Jvm.MethodName) prog_4_method_5_code (4 : Nat) (Option.some Jvm.ClassFile.FieldType.boolean)) ∈ AW := AW_t 243 rfl rfl
theorem k244 : (Jvm.Cond.methodLink "DemandTerms$NeedRows" (32 : Nat) ({ cls := "DemandTerms$NeedRows", name := "has", desc := "(I)Z" } : Jvm.MethodName)) ∈ AW := AW_t 244 (by decide +kernel) rfl
theorem k245 : (Jvm.Cond.instanceMethod ({ cls := "DemandTerms$NeedRows", name := "has", desc := "(I)Z" } : Jvm.MethodName)) ∈ AW := AW_t 245 (by decide +kernel) rfl
theorem k246 : (Jvm.Cond.selects "DemandTerms$NeedRows" ({ cls := "DemandTerms$NeedRows", name := "has", desc := "(I)Z" } : Jvm.MethodName) ({ cls := "DemandTerms$NeedRows", name := "has", desc := "(I)Z" } : Jvm.MethodName)) ∈ AW := AW_t 246 (by decide +kernel) rfl
set_option maxRecDepth 100000 in
theorem k247 : (Jvm.Cond.code ({ cls := "DemandTerms$NeedRows", name := "has", desc := "(I)Z" } : Jvm.MethodName) prog_4_method_4_code (2 : Nat) (Option.some Jvm.ClassFile.FieldType.boolean)) ∈ AW := AW_t 247 rfl rfl
theorem k248 : (Jvm.Cond.methodLink "DemandTerms" (101 : Nat) ({ cls := "DemandTerms", name := "isDerived", desc := "(I)Z" } : Jvm.MethodName)) ∈ AW := AW_t 248 (by decide +kernel) rfl
theorem k250 : (Jvm.Cond.instanceMethod ({ cls := "DemandTerms", name := "isDerived", desc := "(I)Z" } : Jvm.MethodName)) ∈ AW := AW_t 250 (by decide +kernel) rfl
set_option maxRecDepth 100000 in
theorem k251 : (Jvm.Cond.code ({ cls := "DemandTerms", name := "isDerived", desc := "(I)Z" } : Jvm.MethodName) prog_1_method_26_code (4 : Nat) (Option.some Jvm.ClassFile.FieldType.boolean)) ∈ AW := AW_t 251 rfl rfl
theorem k252 : (Jvm.Cond.methodLink "DemandTerms" (175 : Nat) ({ cls := "DemandTerms$NeedRows", name := "versionOf", desc := "(I)I" } : Jvm.MethodName)) ∈ AW := AW_t 252 (by decide +kernel) rfl
theorem k253 : (Jvm.Cond.instanceMethod ({ cls := "DemandTerms$NeedRows", name := "versionOf", desc := "(I)I" } : Jvm.MethodName)) ∈ AW := AW_t 253 (by decide +kernel) rfl
theorem k254 : (Jvm.Cond.selects "DemandTerms$NeedRows" ({ cls := "DemandTerms$NeedRows", name := "versionOf", desc := "(I)I" } : Jvm.MethodName) ({ cls := "DemandTerms$NeedRows", name := "versionOf", desc := "(I)I" } : Jvm.MethodName)) ∈ AW := AW_t 254 (by decide +kernel) rfl
set_option maxRecDepth 100000 in
theorem k255 : (Jvm.Cond.code ({ cls := "DemandTerms$NeedRows", name := "versionOf", desc := "(I)I" } : Jvm.MethodName) prog_4_method_9_code (2 : Nat) (Option.some Jvm.ClassFile.FieldType.int)) ∈ AW := AW_t 255 rfl rfl
theorem k256 : (Jvm.Cond.methodLink "DemandTerms" (178 : Nat) ({ cls := "DemandTerms$Clashes", name := "sourceOf", desc := "(I)I" } : Jvm.MethodName)) ∈ AW := AW_t 256 (by decide +kernel) rfl
theorem k257 : (Jvm.Cond.instanceMethod ({ cls := "DemandTerms$Clashes", name := "sourceOf", desc := "(I)I" } : Jvm.MethodName)) ∈ AW := AW_t 257 (by decide +kernel) rfl
theorem k258 : (Jvm.Cond.selects "DemandTerms$Clashes" ({ cls := "DemandTerms$Clashes", name := "sourceOf", desc := "(I)I" } : Jvm.MethodName) ({ cls := "DemandTerms$Clashes", name := "sourceOf", desc := "(I)I" } : Jvm.MethodName)) ∈ AW := AW_t 258 (by decide +kernel) rfl
set_option maxRecDepth 100000 in
theorem k259 : (Jvm.Cond.code ({ cls := "DemandTerms$Clashes", name := "sourceOf", desc := "(I)I" } : Jvm.MethodName) prog_2_method_12_code (2 : Nat) (Option.some Jvm.ClassFile.FieldType.int)) ∈ AW := AW_t 259 rfl rfl
theorem k260 : (Jvm.Cond.methodLink "DemandTerms$Clashes" (29 : Nat) ({ cls := "DemandTerms$Clashes", name := "has", desc := "(I)Z" } : Jvm.MethodName)) ∈ AW := AW_t 260 (by decide +kernel) rfl
theorem k261 : (Jvm.Cond.instanceMethod ({ cls := "DemandTerms$Clashes", name := "has", desc := "(I)Z" } : Jvm.MethodName)) ∈ AW := AW_t 261 (by decide +kernel) rfl
theorem k262 : (Jvm.Cond.selects "DemandTerms$Clashes" ({ cls := "DemandTerms$Clashes", name := "has", desc := "(I)Z" } : Jvm.MethodName) ({ cls := "DemandTerms$Clashes", name := "has", desc := "(I)Z" } : Jvm.MethodName)) ∈ AW := AW_t 262 (by decide +kernel) rfl
set_option maxRecDepth 100000 in
theorem k263 : (Jvm.Cond.code ({ cls := "DemandTerms$Clashes", name := "has", desc := "(I)Z" } : Jvm.MethodName) prog_2_method_3_code (2 : Nat) (Option.some Jvm.ClassFile.FieldType.boolean)) ∈ AW := AW_t 263 rfl rfl
theorem k264 : (Jvm.Cond.methodLink "DemandTerms" (181 : Nat) ({ cls := "DemandTerms$NeedRows", name := "alike", desc := "(II)Z" } : Jvm.MethodName)) ∈ AW := AW_t 264 (by decide +kernel) rfl
theorem k265 : (Jvm.Cond.instanceMethod ({ cls := "DemandTerms$NeedRows", name := "alike", desc := "(II)Z" } : Jvm.MethodName)) ∈ AW := AW_t 265 (by decide +kernel) rfl
theorem k266 : (Jvm.Cond.selects "DemandTerms$NeedRows" ({ cls := "DemandTerms$NeedRows", name := "alike", desc := "(II)Z" } : Jvm.MethodName) ({ cls := "DemandTerms$NeedRows", name := "alike", desc := "(II)Z" } : Jvm.MethodName)) ∈ AW := AW_t 266 (by decide +kernel) rfl
set_option maxRecDepth 100000 in
theorem k267 : (Jvm.Cond.code ({ cls := "DemandTerms$NeedRows", name := "alike", desc := "(II)Z" } : Jvm.MethodName) prog_4_method_6_code (3 : Nat) (Option.some Jvm.ClassFile.FieldType.boolean)) ∈ AW := AW_t 267 rfl rfl
theorem k268 : (Jvm.Cond.methodLink "DemandTerms" (184 : Nat) ({ cls := "DemandTerms$Clashes", name := "runOf", desc := "(I)J" } : Jvm.MethodName)) ∈ AW := AW_t 268 (by decide +kernel) rfl
theorem k269 : (Jvm.Cond.instanceMethod ({ cls := "DemandTerms$Clashes", name := "runOf", desc := "(I)J" } : Jvm.MethodName)) ∈ AW := AW_t 269 (by decide +kernel) rfl
theorem k270 : (Jvm.Cond.selects "DemandTerms$Clashes" ({ cls := "DemandTerms$Clashes", name := "runOf", desc := "(I)J" } : Jvm.MethodName) ({ cls := "DemandTerms$Clashes", name := "runOf", desc := "(I)J" } : Jvm.MethodName)) ∈ AW := AW_t 270 (by decide +kernel) rfl
set_option maxRecDepth 100000 in
theorem k271 : (Jvm.Cond.code ({ cls := "DemandTerms$Clashes", name := "runOf", desc := "(I)J" } : Jvm.MethodName) prog_2_method_13_code (2 : Nat) (Option.some Jvm.ClassFile.FieldType.long)) ∈ AW := AW_t 271 rfl rfl
theorem k272 : (Jvm.Cond.methodLink "DemandTerms" (187 : Nat) ({ cls := "DemandTerms", name := "hasVersion", desc := "(JI)Z" } : Jvm.MethodName)) ∈ AW := AW_t 272 (by decide +kernel) rfl
theorem k273 : (Jvm.Cond.methodLink "DemandTerms" (104 : Nat) ({ cls := "DemandTerms", name := "deriveFrom", desc := "(I)Z" } : Jvm.MethodName)) ∈ AW := AW_t 273 (by decide +kernel) rfl
theorem k275 : (Jvm.Cond.instanceMethod ({ cls := "DemandTerms", name := "deriveFrom", desc := "(I)Z" } : Jvm.MethodName)) ∈ AW := AW_t 275 (by decide +kernel) rfl
set_option maxRecDepth 100000 in
theorem k276 : (Jvm.Cond.code ({ cls := "DemandTerms", name := "deriveFrom", desc := "(I)Z" } : Jvm.MethodName) prog_1_method_27_code (6 : Nat) (Option.some Jvm.ClassFile.FieldType.boolean)) ∈ AW := AW_t 276 rfl rfl
theorem k277 : (Jvm.Cond.methodLink "DemandTerms" (190 : Nat) ({ cls := "DemandTerms$NeedRows", name := "versionsLike", desc := "(I)J" } : Jvm.MethodName)) ∈ AW := AW_t 277 (by decide +kernel) rfl
theorem k278 : (Jvm.Cond.instanceMethod ({ cls := "DemandTerms$NeedRows", name := "versionsLike", desc := "(I)J" } : Jvm.MethodName)) ∈ AW := AW_t 278 (by decide +kernel) rfl
theorem k279 : (Jvm.Cond.selects "DemandTerms$NeedRows" ({ cls := "DemandTerms$NeedRows", name := "versionsLike", desc := "(I)J" } : Jvm.MethodName) ({ cls := "DemandTerms$NeedRows", name := "versionsLike", desc := "(I)J" } : Jvm.MethodName)) ∈ AW := AW_t 279 (by decide +kernel) rfl
set_option maxRecDepth 100000 in
theorem k280 : (Jvm.Cond.code ({ cls := "DemandTerms$NeedRows", name := "versionsLike", desc := "(I)J" } : Jvm.MethodName) prog_4_method_7_code (5 : Nat) (Option.some Jvm.ClassFile.FieldType.long)) ∈ AW := AW_t 280 rfl rfl
theorem k281 : (Jvm.Cond.methodLink "DemandTerms$NeedRows" (36 : Nat) ({ cls := "DemandTerms$NeedRows", name := "alike", desc := "(II)Z" } : Jvm.MethodName)) ∈ AW := AW_t 281 (by decide +kernel) rfl
theorem k282 : (Jvm.Cond.methodLink "DemandTerms" (193 : Nat) ({ cls := "DemandTerms", name := "runAround", desc := "(JI)J" } : Jvm.MethodName)) ∈ AW := AW_t 282 (by decide +kernel) rfl
theorem k283 : (Jvm.Cond.static ({ cls := "DemandTerms", name := "runAround", desc := "(JI)J" } : Jvm.MethodName)) ∈ AW := AW_t 283 (by decide +kernel) rfl
set_option maxRecDepth 100000 in
theorem k284 : (Jvm.Cond.code ({ cls := "DemandTerms", name := "runAround", desc := "(JI)J" } : Jvm.MethodName) prog_1_method_40_code (6 : Nat) (Option.some Jvm.ClassFile.FieldType.long)) ∈ AW := AW_t 284 rfl rfl
theorem k285 : (Jvm.Cond.methodLink "DemandTerms" (111 : Nat) ({ cls := "DemandTerms$Clashes", name := "add", desc := "(IJ)I" } : Jvm.MethodName)) ∈ AW := AW_t 285 (by decide +kernel) rfl
theorem k286 : (Jvm.Cond.instanceMethod ({ cls := "DemandTerms$Clashes", name := "add", desc := "(IJ)I" } : Jvm.MethodName)) ∈ AW := AW_t 286 (by decide +kernel) rfl
theorem k287 : (Jvm.Cond.selects "DemandTerms$Clashes" ({ cls := "DemandTerms$Clashes", name := "add", desc := "(IJ)I" } : Jvm.MethodName) ({ cls := "DemandTerms$Clashes", name := "add", desc := "(IJ)I" } : Jvm.MethodName)) ∈ AW := AW_t 287 (by decide +kernel) rfl
set_option maxRecDepth 100000 in
theorem k288 : (Jvm.Cond.code ({ cls := "DemandTerms$Clashes", name := "add", desc := "(IJ)I" } : Jvm.MethodName) prog_2_method_4_code (4 : Nat) (Option.some Jvm.ClassFile.FieldType.int)) ∈ AW := AW_t 288 rfl rfl
theorem k289 : (Jvm.Cond.methodLink "DemandTerms" (197 : Nat) ({ cls := "DemandTerms$NeedRows", name := "nameOf", desc := "(I)I" } : Jvm.MethodName)) ∈ AW := AW_t 289 (by decide +kernel) rfl
theorem k290 : (Jvm.Cond.instanceMethod ({ cls := "DemandTerms$NeedRows", name := "nameOf", desc := "(I)I" } : Jvm.MethodName)) ∈ AW := AW_t 290 (by decide +kernel) rfl
theorem k291 : (Jvm.Cond.selects "DemandTerms$NeedRows" ({ cls := "DemandTerms$NeedRows", name := "nameOf", desc := "(I)I" } : Jvm.MethodName) ({ cls := "DemandTerms$NeedRows", name := "nameOf", desc := "(I)I" } : Jvm.MethodName)) ∈ AW := AW_t 291 (by decide +kernel) rfl
set_option maxRecDepth 100000 in
theorem k292 : (Jvm.Cond.code ({ cls := "DemandTerms$NeedRows", name := "nameOf", desc := "(I)I" } : Jvm.MethodName) prog_4_method_8_code (2 : Nat) (Option.some Jvm.ClassFile.FieldType.int)) ∈ AW := AW_t 292 rfl rfl
theorem k293 : (Jvm.Cond.methodLink "DemandTerms" (112 : Nat) ({ cls := "DemandTerms", name := "putPart", desc := "(IIJ)V" } : Jvm.MethodName)) ∈ AW := AW_t 293 (by decide +kernel) rfl
theorem k295 : (Jvm.Cond.instanceMethod ({ cls := "DemandTerms", name := "putPart", desc := "(IIJ)V" } : Jvm.MethodName)) ∈ AW := AW_t 295 (by decide +kernel) rfl
set_option maxRecDepth 100000 in
theorem k296 : (Jvm.Cond.code ({ cls := "DemandTerms", name := "putPart", desc := "(IIJ)V" } : Jvm.MethodName) prog_1_method_28_code (5 : Nat) (Option.none : Option Jvm.ClassFile.FieldType)) ∈ AW := AW_t 296 rfl rfl
theorem k297 : (Jvm.Cond.methodLink "DemandTerms" (204 : Nat) ({ cls := "DemandTerms$Clashes", name := "put", desc := "(IIJ)V" } : Jvm.MethodName)) ∈ AW := AW_t 297 (by decide +kernel) rfl
theorem k298 : (Jvm.Cond.instanceMethod ({ cls := "DemandTerms$Clashes", name := "put", desc := "(IIJ)V" } : Jvm.MethodName)) ∈ AW := AW_t 298 (by decide +kernel) rfl
theorem k299 : (Jvm.Cond.selects "DemandTerms$Clashes" ({ cls := "DemandTerms$Clashes", name := "put", desc := "(IIJ)V" } : Jvm.MethodName) ({ cls := "DemandTerms$Clashes", name := "put", desc := "(IIJ)V" } : Jvm.MethodName)) ∈ AW := AW_t 299 (by decide +kernel) rfl
set_option maxRecDepth 100000 in
theorem k300 : (Jvm.Cond.code ({ cls := "DemandTerms$Clashes", name := "put", desc := "(IIJ)V" } : Jvm.MethodName) prog_2_method_6_code (5 : Nat) (Option.none : Option Jvm.ClassFile.FieldType)) ∈ AW := AW_t 300 rfl rfl
theorem k301 : (Jvm.Cond.methodLink "DemandTerms" (198 : Nat) ({ cls := "DemandTerms$NeedRows", name := "otherOf", desc := "(I)I" } : Jvm.MethodName)) ∈ AW := AW_t 301 (by decide +kernel) rfl
theorem k302 : (Jvm.Cond.instanceMethod ({ cls := "DemandTerms$NeedRows", name := "otherOf", desc := "(I)I" } : Jvm.MethodName)) ∈ AW := AW_t 302 (by decide +kernel) rfl
theorem k303 : (Jvm.Cond.selects "DemandTerms$NeedRows" ({ cls := "DemandTerms$NeedRows", name := "otherOf", desc := "(I)I" } : Jvm.MethodName) ({ cls := "DemandTerms$NeedRows", name := "otherOf", desc := "(I)I" } : Jvm.MethodName)) ∈ AW := AW_t 303 (by decide +kernel) rfl
set_option maxRecDepth 100000 in
theorem k304 : (Jvm.Cond.code ({ cls := "DemandTerms$NeedRows", name := "otherOf", desc := "(I)I" } : Jvm.MethodName) prog_4_method_10_code (2 : Nat) (Option.some Jvm.ClassFile.FieldType.int)) ∈ AW := AW_t 304 rfl rfl
theorem k305 : (Jvm.Cond.methodLink "DemandTerms" (201 : Nat) ({ cls := "DemandTerms$NeedRows", name := "neededOf", desc := "(I)J" } : Jvm.MethodName)) ∈ AW := AW_t 305 (by decide +kernel) rfl
theorem k306 : (Jvm.Cond.instanceMethod ({ cls := "DemandTerms$NeedRows", name := "neededOf", desc := "(I)J" } : Jvm.MethodName)) ∈ AW := AW_t 306 (by decide +kernel) rfl
theorem k307 : (Jvm.Cond.selects "DemandTerms$NeedRows" ({ cls := "DemandTerms$NeedRows", name := "neededOf", desc := "(I)J" } : Jvm.MethodName) ({ cls := "DemandTerms$NeedRows", name := "neededOf", desc := "(I)J" } : Jvm.MethodName)) ∈ AW := AW_t 307 (by decide +kernel) rfl
set_option maxRecDepth 100000 in
theorem k308 : (Jvm.Cond.code ({ cls := "DemandTerms$NeedRows", name := "neededOf", desc := "(I)J" } : Jvm.MethodName) prog_4_method_11_code (2 : Nat) (Option.some Jvm.ClassFile.FieldType.long)) ∈ AW := AW_t 308 rfl rfl
theorem k309 : (Jvm.Cond.methodLink "DemandTerms" (107 : Nat) ({ cls := "DemandTerms$Clashes", name := "cutTo", desc := "(I)V" } : Jvm.MethodName)) ∈ AW := AW_t 309 (by decide +kernel) rfl
theorem k310 : (Jvm.Cond.instanceMethod ({ cls := "DemandTerms$Clashes", name := "cutTo", desc := "(I)V" } : Jvm.MethodName)) ∈ AW := AW_t 310 (by decide +kernel) rfl
theorem k311 : (Jvm.Cond.selects "DemandTerms$Clashes" ({ cls := "DemandTerms$Clashes", name := "cutTo", desc := "(I)V" } : Jvm.MethodName) ({ cls := "DemandTerms$Clashes", name := "cutTo", desc := "(I)V" } : Jvm.MethodName)) ∈ AW := AW_t 311 (by decide +kernel) rfl
set_option maxRecDepth 100000 in
theorem k312 : (Jvm.Cond.code ({ cls := "DemandTerms$Clashes", name := "cutTo", desc := "(I)V" } : Jvm.MethodName) prog_2_method_5_code (2 : Nat) (Option.none : Option Jvm.ClassFile.FieldType)) ∈ AW := AW_t 312 rfl rfl
theorem k313 : (Jvm.Cond.methodLink "DemandTermsLaw" (53 : Nat) ({ cls := "DemandTerms", name := "bar", desc := "(IJZ)I" } : Jvm.MethodName)) ∈ AW := AW_t 313 (by decide +kernel) rfl
theorem k314 : (Jvm.Cond.instanceMethod ({ cls := "DemandTerms", name := "bar", desc := "(IJZ)I" } : Jvm.MethodName)) ∈ AW := AW_t 314 (by decide +kernel) rfl
theorem k315 : (Jvm.Cond.selects "DemandTerms" ({ cls := "DemandTerms", name := "bar", desc := "(IJZ)I" } : Jvm.MethodName) ({ cls := "DemandTerms", name := "bar", desc := "(IJZ)I" } : Jvm.MethodName)) ∈ AW := AW_t 315 (by decide +kernel) rfl
set_option maxRecDepth 100000 in
theorem k316 : (Jvm.Cond.code ({ cls := "DemandTerms", name := "bar", desc := "(IJZ)I" } : Jvm.MethodName) prog_1_method_10_code (6 : Nat) (Option.some Jvm.ClassFile.FieldType.int)) ∈ AW := AW_t 316 rfl rfl
theorem k317 : (Jvm.Cond.methodLink "DemandTermsLaw" (57 : Nat) ({ cls := "DemandTerms", name := "learn", desc := "(III)I" } : Jvm.MethodName)) ∈ AW := AW_t 317 (by decide +kernel) rfl
theorem k318 : (Jvm.Cond.instanceMethod ({ cls := "DemandTerms", name := "learn", desc := "(III)I" } : Jvm.MethodName)) ∈ AW := AW_t 318 (by decide +kernel) rfl
theorem k319 : (Jvm.Cond.selects "DemandTerms" ({ cls := "DemandTerms", name := "learn", desc := "(III)I" } : Jvm.MethodName) ({ cls := "DemandTerms", name := "learn", desc := "(III)I" } : Jvm.MethodName)) ∈ AW := AW_t 319 (by decide +kernel) rfl
set_option maxRecDepth 100000 in
theorem k320 : (Jvm.Cond.code ({ cls := "DemandTerms", name := "learn", desc := "(III)I" } : Jvm.MethodName) prog_1_method_11_code (10 : Nat) (Option.some Jvm.ClassFile.FieldType.int)) ∈ AW := AW_t 320 rfl rfl
theorem k321 : (Jvm.Cond.methodLink "DemandTerms" (116 : Nat) ({ cls := "DemandTerms$Clashes", name := "holds", desc := "(II)Z" } : Jvm.MethodName)) ∈ AW := AW_t 321 (by decide +kernel) rfl
theorem k322 : (Jvm.Cond.instanceMethod ({ cls := "DemandTerms$Clashes", name := "holds", desc := "(II)Z" } : Jvm.MethodName)) ∈ AW := AW_t 322 (by decide +kernel) rfl
theorem k323 : (Jvm.Cond.selects "DemandTerms$Clashes" ({ cls := "DemandTerms$Clashes", name := "holds", desc := "(II)Z" } : Jvm.MethodName) ({ cls := "DemandTerms$Clashes", name := "holds", desc := "(II)Z" } : Jvm.MethodName)) ∈ AW := AW_t 323 (by decide +kernel) rfl
set_option maxRecDepth 100000 in
theorem k324 : (Jvm.Cond.code ({ cls := "DemandTerms$Clashes", name := "holds", desc := "(II)Z" } : Jvm.MethodName) prog_2_method_7_code (3 : Nat) (Option.some Jvm.ClassFile.FieldType.boolean)) ∈ AW := AW_t 324 rfl rfl
theorem k325 : (Jvm.Cond.methodLink "DemandTerms" (119 : Nat) ({ cls := "DemandTerms$Names", name := "size", desc := "()I" } : Jvm.MethodName)) ∈ AW := AW_t 325 (by decide +kernel) rfl
theorem k326 : (Jvm.Cond.instanceMethod ({ cls := "DemandTerms$Names", name := "size", desc := "()I" } : Jvm.MethodName)) ∈ AW := AW_t 326 (by decide +kernel) rfl
theorem k327 : (Jvm.Cond.selects "DemandTerms$Names" ({ cls := "DemandTerms$Names", name := "size", desc := "()I" } : Jvm.MethodName) ({ cls := "DemandTerms$Names", name := "size", desc := "()I" } : Jvm.MethodName)) ∈ AW := AW_t 327 (by decide +kernel) rfl
set_option maxRecDepth 100000 in
theorem k328 : (Jvm.Cond.code ({ cls := "DemandTerms$Names", name := "size", desc := "()I" } : Jvm.MethodName) prog_3_method_2_code (1 : Nat) (Option.some Jvm.ClassFile.FieldType.int)) ∈ AW := AW_t 328 rfl rfl
theorem k329 : (Jvm.Cond.methodLink "DemandTerms" (120 : Nat) ({ cls := "DemandTerms", name := "placesIn", desc := "(II)J" } : Jvm.MethodName)) ∈ AW := AW_t 329 (by decide +kernel) rfl
theorem k331 : (Jvm.Cond.instanceMethod ({ cls := "DemandTerms", name := "placesIn", desc := "(II)J" } : Jvm.MethodName)) ∈ AW := AW_t 331 (by decide +kernel) rfl
set_option maxRecDepth 100000 in
theorem k332 : (Jvm.Cond.code ({ cls := "DemandTerms", name := "placesIn", desc := "(II)J" } : Jvm.MethodName) prog_1_method_29_code (3 : Nat) (Option.some Jvm.ClassFile.FieldType.long)) ∈ AW := AW_t 332 rfl rfl
theorem k333 : (Jvm.Cond.methodLink "DemandTerms" (132 : Nat) ({ cls := "DemandTerms$Clashes", name := "placesOf", desc := "(II)J" } : Jvm.MethodName)) ∈ AW := AW_t 333 (by decide +kernel) rfl
theorem k334 : (Jvm.Cond.instanceMethod ({ cls := "DemandTerms$Clashes", name := "placesOf", desc := "(II)J" } : Jvm.MethodName)) ∈ AW := AW_t 334 (by decide +kernel) rfl
theorem k335 : (Jvm.Cond.selects "DemandTerms$Clashes" ({ cls := "DemandTerms$Clashes", name := "placesOf", desc := "(II)J" } : Jvm.MethodName) ({ cls := "DemandTerms$Clashes", name := "placesOf", desc := "(II)J" } : Jvm.MethodName)) ∈ AW := AW_t 335 (by decide +kernel) rfl
set_option maxRecDepth 100000 in
theorem k336 : (Jvm.Cond.code ({ cls := "DemandTerms$Clashes", name := "placesOf", desc := "(II)J" } : Jvm.MethodName) prog_2_method_8_code (3 : Nat) (Option.some Jvm.ClassFile.FieldType.long)) ∈ AW := AW_t 336 rfl rfl
theorem k337 : (Jvm.Cond.methodLink "DemandTerms$Clashes" (33 : Nat) ({ cls := "DemandTerms$Clashes", name := "holds", desc := "(II)Z" } : Jvm.MethodName)) ∈ AW := AW_t 337 (by decide +kernel) rfl
theorem k338 : (Jvm.Cond.methodLink "DemandTermsLaw" (62 : Nat) ({ cls := "DemandTerms", name := "count", desc := "()I" } : Jvm.MethodName)) ∈ AW := AW_t 338 (by decide +kernel) rfl
theorem k339 : (Jvm.Cond.instanceMethod ({ cls := "DemandTerms", name := "count", desc := "()I" } : Jvm.MethodName)) ∈ AW := AW_t 339 (by decide +kernel) rfl
theorem k340 : (Jvm.Cond.selects "DemandTerms" ({ cls := "DemandTerms", name := "count", desc := "()I" } : Jvm.MethodName) ({ cls := "DemandTerms", name := "count", desc := "()I" } : Jvm.MethodName)) ∈ AW := AW_t 340 (by decide +kernel) rfl
set_option maxRecDepth 100000 in
theorem k341 : (Jvm.Cond.code ({ cls := "DemandTerms", name := "count", desc := "()I" } : Jvm.MethodName) prog_1_method_12_code (1 : Nat) (Option.some Jvm.ClassFile.FieldType.int)) ∈ AW := AW_t 341 rfl rfl
theorem k342 : (Jvm.Cond.methodLink "DemandTermsLaw" (67 : Nat) ({ cls := "DemandTerms", name := "terms", desc := "(I)I" } : Jvm.MethodName)) ∈ AW := AW_t 342 (by decide +kernel) rfl
theorem k343 : (Jvm.Cond.instanceMethod ({ cls := "DemandTerms", name := "terms", desc := "(I)I" } : Jvm.MethodName)) ∈ AW := AW_t 343 (by decide +kernel) rfl
theorem k344 : (Jvm.Cond.selects "DemandTerms" ({ cls := "DemandTerms", name := "terms", desc := "(I)I" } : Jvm.MethodName) ({ cls := "DemandTerms", name := "terms", desc := "(I)I" } : Jvm.MethodName)) ∈ AW := AW_t 344 (by decide +kernel) rfl
set_option maxRecDepth 100000 in
theorem k345 : (Jvm.Cond.code ({ cls := "DemandTerms", name := "terms", desc := "(I)I" } : Jvm.MethodName) prog_1_method_13_code (2 : Nat) (Option.some Jvm.ClassFile.FieldType.int)) ∈ AW := AW_t 345 rfl rfl
theorem k346 : (Jvm.Cond.methodLink "DemandTerms" (124 : Nat) ({ cls := "DemandTerms$Clashes", name := "has", desc := "(I)Z" } : Jvm.MethodName)) ∈ AW := AW_t 346 (by decide +kernel) rfl
theorem k347 : (Jvm.Cond.methodLink "DemandTerms" (125 : Nat) ({ cls := "DemandTerms$Clashes", name := "partsOf", desc := "(I)I" } : Jvm.MethodName)) ∈ AW := AW_t 347 (by decide +kernel) rfl
theorem k348 : (Jvm.Cond.instanceMethod ({ cls := "DemandTerms$Clashes", name := "partsOf", desc := "(I)I" } : Jvm.MethodName)) ∈ AW := AW_t 348 (by decide +kernel) rfl
theorem k349 : (Jvm.Cond.selects "DemandTerms$Clashes" ({ cls := "DemandTerms$Clashes", name := "partsOf", desc := "(I)I" } : Jvm.MethodName) ({ cls := "DemandTerms$Clashes", name := "partsOf", desc := "(I)I" } : Jvm.MethodName)) ∈ AW := AW_t 349 (by decide +kernel) rfl
set_option maxRecDepth 100000 in
theorem k350 : (Jvm.Cond.code ({ cls := "DemandTerms$Clashes", name := "partsOf", desc := "(I)I" } : Jvm.MethodName) prog_2_method_9_code (2 : Nat) (Option.some Jvm.ClassFile.FieldType.int)) ∈ AW := AW_t 350 rfl rfl
theorem k351 : (Jvm.Cond.methodLink "DemandTerms$Clashes" (37 : Nat) ({ cls := "java/lang/Integer", name := "bitCount", desc := "(I)I" } : Jvm.MethodName)) ∈ AW := AW_t 351 (by decide +kernel) rfl
theorem k352 : (Jvm.Cond.static ({ cls := "java/lang/Integer", name := "bitCount", desc := "(I)I" } : Jvm.MethodName)) ∈ AW := AW_t 352 (by decide +kernel) rfl
set_option maxRecDepth 100000 in
theorem k353 : (Jvm.Cond.code ({ cls := "java/lang/Integer", name := "bitCount", desc := "(I)I" } : Jvm.MethodName) prog_9_method_49_code (1 : Nat) (Option.some Jvm.ClassFile.FieldType.int)) ∈ AW := AW_t 353 rfl rfl
theorem k354 : (Jvm.Cond.constant "java/lang/Integer" (265 : Nat) (1431655765 : Int32)) ∈ AW := AW_t 354 (by decide +kernel) rfl
theorem k355 : (Jvm.Cond.constant "java/lang/Integer" (266 : Nat) (858993459 : Int32)) ∈ AW := AW_t 355 (by decide +kernel) rfl
theorem k356 : (Jvm.Cond.constant "java/lang/Integer" (267 : Nat) (252645135 : Int32)) ∈ AW := AW_t 356 (by decide +kernel) rfl
theorem k357 : (Jvm.Cond.methodLink "DemandTermsLaw" (71 : Nat) ({ cls := "DemandTerms", name := "part", desc := "(III)I" } : Jvm.MethodName)) ∈ AW := AW_t 357 (by decide +kernel) rfl
theorem k358 : (Jvm.Cond.instanceMethod ({ cls := "DemandTerms", name := "part", desc := "(III)I" } : Jvm.MethodName)) ∈ AW := AW_t 358 (by decide +kernel) rfl
theorem k359 : (Jvm.Cond.selects "DemandTerms" ({ cls := "DemandTerms", name := "part", desc := "(III)I" } : Jvm.MethodName) ({ cls := "DemandTerms", name := "part", desc := "(III)I" } : Jvm.MethodName)) ∈ AW := AW_t 359 (by decide +kernel) rfl
set_option maxRecDepth 100000 in
theorem k360 : (Jvm.Cond.code ({ cls := "DemandTerms", name := "part", desc := "(III)I" } : Jvm.MethodName) prog_1_method_14_code (5 : Nat) (Option.some Jvm.ClassFile.FieldType.int)) ∈ AW := AW_t 360 rfl rfl
theorem k361 : (Jvm.Cond.methodLink "DemandTerms" (128 : Nat) ({ cls := "DemandTerms$Clashes", name := "nameAt", desc := "(II)I" } : Jvm.MethodName)) ∈ AW := AW_t 361 (by decide +kernel) rfl
theorem k362 : (Jvm.Cond.instanceMethod ({ cls := "DemandTerms$Clashes", name := "nameAt", desc := "(II)I" } : Jvm.MethodName)) ∈ AW := AW_t 362 (by decide +kernel) rfl
theorem k363 : (Jvm.Cond.selects "DemandTerms$Clashes" ({ cls := "DemandTerms$Clashes", name := "nameAt", desc := "(II)I" } : Jvm.MethodName) ({ cls := "DemandTerms$Clashes", name := "nameAt", desc := "(II)I" } : Jvm.MethodName)) ∈ AW := AW_t 363 (by decide +kernel) rfl
set_option maxRecDepth 100000 in
theorem k364 : (Jvm.Cond.code ({ cls := "DemandTerms$Clashes", name := "nameAt", desc := "(II)I" } : Jvm.MethodName) prog_2_method_10_code (4 : Nat) (Option.some Jvm.ClassFile.FieldType.int)) ∈ AW := AW_t 364 rfl rfl
theorem k365 : (Jvm.Cond.methodLink "DemandTerms$Clashes" (43 : Nat) ({ cls := "DemandTerms$Clashes", name := "indexOf", desc := "(II)I" } : Jvm.MethodName)) ∈ AW := AW_t 365 (by decide +kernel) rfl
theorem k366 : (Jvm.Cond.instanceMethod ({ cls := "DemandTerms$Clashes", name := "indexOf", desc := "(II)I" } : Jvm.MethodName)) ∈ AW := AW_t 366 (by decide +kernel) rfl
theorem k367 : (Jvm.Cond.selects "DemandTerms$Clashes" ({ cls := "DemandTerms$Clashes", name := "indexOf", desc := "(II)I" } : Jvm.MethodName) ({ cls := "DemandTerms$Clashes", name := "indexOf", desc := "(II)I" } : Jvm.MethodName)) ∈ AW := AW_t 367 (by decide +kernel) rfl
set_option maxRecDepth 100000 in
theorem k368 : (Jvm.Cond.code ({ cls := "DemandTerms$Clashes", name := "indexOf", desc := "(II)I" } : Jvm.MethodName) prog_2_method_11_code (3 : Nat) (Option.some Jvm.ClassFile.FieldType.int)) ∈ AW := AW_t 368 rfl rfl
theorem k369 : (Jvm.Cond.methodLink "DemandTermsLaw" (75 : Nat) ({ cls := "DemandTerms", name := "partSet", desc := "(II)J" } : Jvm.MethodName)) ∈ AW := AW_t 369 (by decide +kernel) rfl
theorem k370 : (Jvm.Cond.instanceMethod ({ cls := "DemandTerms", name := "partSet", desc := "(II)J" } : Jvm.MethodName)) ∈ AW := AW_t 370 (by decide +kernel) rfl
theorem k371 : (Jvm.Cond.selects "DemandTerms" ({ cls := "DemandTerms", name := "partSet", desc := "(II)J" } : Jvm.MethodName) ({ cls := "DemandTerms", name := "partSet", desc := "(II)J" } : Jvm.MethodName)) ∈ AW := AW_t 371 (by decide +kernel) rfl
set_option maxRecDepth 100000 in
theorem k372 : (Jvm.Cond.code ({ cls := "DemandTerms", name := "partSet", desc := "(II)J" } : Jvm.MethodName) prog_1_method_15_code (4 : Nat) (Option.some Jvm.ClassFile.FieldType.long)) ∈ AW := AW_t 372 rfl rfl
theorem k373 : (Jvm.Cond.methodLink "DemandTermsLaw" (80 : Nat) ({ cls := "DemandTerms", name := "choose", desc := "(I)Z" } : Jvm.MethodName)) ∈ AW := AW_t 373 (by decide +kernel) rfl
theorem k374 : (Jvm.Cond.instanceMethod ({ cls := "DemandTerms", name := "choose", desc := "(I)Z" } : Jvm.MethodName)) ∈ AW := AW_t 374 (by decide +kernel) rfl
theorem k375 : (Jvm.Cond.selects "DemandTerms" ({ cls := "DemandTerms", name := "choose", desc := "(I)Z" } : Jvm.MethodName) ({ cls := "DemandTerms", name := "choose", desc := "(I)Z" } : Jvm.MethodName)) ∈ AW := AW_t 375 (by decide +kernel) rfl
set_option maxRecDepth 100000 in
theorem k376 : (Jvm.Cond.code ({ cls := "DemandTerms", name := "choose", desc := "(I)Z" } : Jvm.MethodName) prog_1_method_16_code (2 : Nat) (Option.some Jvm.ClassFile.FieldType.boolean)) ∈ AW := AW_t 376 rfl rfl
theorem k377 : (Jvm.Cond.methodLink "DemandTerms" (134 : Nat) ({ cls := "DemandTerms", name := "narrowChoice", desc := "(IJ)V" } : Jvm.MethodName)) ∈ AW := AW_t 377 (by decide +kernel) rfl
theorem k379 : (Jvm.Cond.instanceMethod ({ cls := "DemandTerms", name := "narrowChoice", desc := "(IJ)V" } : Jvm.MethodName)) ∈ AW := AW_t 379 (by decide +kernel) rfl
set_option maxRecDepth 100000 in
theorem k380 : (Jvm.Cond.code ({ cls := "DemandTerms", name := "narrowChoice", desc := "(IJ)V" } : Jvm.MethodName) prog_1_method_30_code (4 : Nat) (Option.none : Option Jvm.ClassFile.FieldType)) ∈ AW := AW_t 380 rfl rfl
theorem k381 : (Jvm.Cond.methodLink "DemandTermsLaw" (85 : Nat) ({ cls := "DemandTerms", name := "forget", desc := "()V" } : Jvm.MethodName)) ∈ AW := AW_t 381 (by decide +kernel) rfl
theorem k382 : (Jvm.Cond.instanceMethod ({ cls := "DemandTerms", name := "forget", desc := "()V" } : Jvm.MethodName)) ∈ AW := AW_t 382 (by decide +kernel) rfl
theorem k383 : (Jvm.Cond.selects "DemandTerms" ({ cls := "DemandTerms", name := "forget", desc := "()V" } : Jvm.MethodName) ({ cls := "DemandTerms", name := "forget", desc := "()V" } : Jvm.MethodName)) ∈ AW := AW_t 383 (by decide +kernel) rfl
set_option maxRecDepth 100000 in
theorem k384 : (Jvm.Cond.code ({ cls := "DemandTerms", name := "forget", desc := "()V" } : Jvm.MethodName) prog_1_method_17_code (2 : Nat) (Option.none : Option Jvm.ClassFile.FieldType)) ∈ AW := AW_t 384 rfl rfl
theorem k385 : (Jvm.Cond.methodLink "DemandTermsLaw" (89 : Nat) ({ cls := "DemandTerms", name := "state", desc := "(I)I" } : Jvm.MethodName)) ∈ AW := AW_t 385 (by decide +kernel) rfl
theorem k386 : (Jvm.Cond.instanceMethod ({ cls := "DemandTerms", name := "state", desc := "(I)I" } : Jvm.MethodName)) ∈ AW := AW_t 386 (by decide +kernel) rfl
theorem k387 : (Jvm.Cond.selects "DemandTerms" ({ cls := "DemandTerms", name := "state", desc := "(I)I" } : Jvm.MethodName) ({ cls := "DemandTerms", name := "state", desc := "(I)I" } : Jvm.MethodName)) ∈ AW := AW_t 387 (by decide +kernel) rfl
set_option maxRecDepth 100000 in
theorem k388 : (Jvm.Cond.code ({ cls := "DemandTerms", name := "state", desc := "(I)I" } : Jvm.MethodName) prog_1_method_18_code (2 : Nat) (Option.some Jvm.ClassFile.FieldType.int)) ∈ AW := AW_t 388 rfl rfl
theorem k389 : (Jvm.Cond.methodLink "DemandTerms" (138 : Nat) ({ cls := "DemandTerms", name := "stateOf", desc := "(I)I" } : Jvm.MethodName)) ∈ AW := AW_t 389 (by decide +kernel) rfl
theorem k391 : (Jvm.Cond.instanceMethod ({ cls := "DemandTerms", name := "stateOf", desc := "(I)I" } : Jvm.MethodName)) ∈ AW := AW_t 391 (by decide +kernel) rfl
set_option maxRecDepth 100000 in
theorem k392 : (Jvm.Cond.code ({ cls := "DemandTerms", name := "stateOf", desc := "(I)I" } : Jvm.MethodName) prog_1_method_32_code (5 : Nat) (Option.some Jvm.ClassFile.FieldType.int)) ∈ AW := AW_t 392 rfl rfl
theorem k393 : (Jvm.Cond.methodLink "DemandTerms" (207 : Nat) ({ cls := "DemandTerms", name := "relationToChoice", desc := "(II)I" } : Jvm.MethodName)) ∈ AW := AW_t 393 (by decide +kernel) rfl
theorem k395 : (Jvm.Cond.instanceMethod ({ cls := "DemandTerms", name := "relationToChoice", desc := "(II)I" } : Jvm.MethodName)) ∈ AW := AW_t 395 (by decide +kernel) rfl
set_option maxRecDepth 100000 in
theorem k396 : (Jvm.Cond.code ({ cls := "DemandTerms", name := "relationToChoice", desc := "(II)I" } : Jvm.MethodName) prog_1_method_31_code (3 : Nat) (Option.some Jvm.ClassFile.FieldType.int)) ∈ AW := AW_t 396 rfl rfl
