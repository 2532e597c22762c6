theorem k397 : (Jvm.Cond.methodLink "DemandTermsLaw" (93 : Nat) ({ cls := "DemandTerms", name := "forced", desc := "(I)I" } : Jvm.MethodName)) ∈ AW := AW_t 397 (by decide +kernel) rfl
theorem k398 : (Jvm.Cond.instanceMethod ({ cls := "DemandTerms", name := "forced", desc := "(I)I" } : Jvm.MethodName)) ∈ AW := AW_t 398 (by decide +kernel) rfl
theorem k399 : (Jvm.Cond.selects "DemandTerms" ({ cls := "DemandTerms", name := "forced", desc := "(I)I" } : Jvm.MethodName) ({ cls := "DemandTerms", name := "forced", desc := "(I)I" } : Jvm.MethodName)) ∈ AW := AW_t 399 (by decide +kernel) rfl
set_option maxRecDepth 100000 in
theorem k400 : (Jvm.Cond.code ({ cls := "DemandTerms", name := "forced", desc := "(I)I" } : Jvm.MethodName) prog_1_method_19_code (2 : Nat) (Option.some Jvm.ClassFile.FieldType.int)) ∈ AW := AW_t 400 rfl rfl
theorem k401 : (Jvm.Cond.methodLink "DemandTerms" (141 : Nat) ({ cls := "DemandTerms", name := "openName", desc := "(I)I" } : Jvm.MethodName)) ∈ AW := AW_t 401 (by decide +kernel) rfl
theorem k403 : (Jvm.Cond.instanceMethod ({ cls := "DemandTerms", name := "openName", desc := "(I)I" } : Jvm.MethodName)) ∈ AW := AW_t 403 (by decide +kernel) rfl
set_option maxRecDepth 100000 in
theorem k404 : (Jvm.Cond.code ({ cls := "DemandTerms", name := "openName", desc := "(I)I" } : Jvm.MethodName) prog_1_method_33_code (3 : Nat) (Option.some Jvm.ClassFile.FieldType.int)) ∈ AW := AW_t 404 rfl rfl
theorem k405 : (Jvm.Cond.methodLink "DemandTerms" (144 : Nat) ({ cls := "DemandTerms$Clashes", name := "indexOf", desc := "(II)I" } : Jvm.MethodName)) ∈ AW := AW_t 405 (by decide +kernel) rfl
theorem k406 : (Jvm.Cond.methodLink "DemandTermsLaw" (97 : Nat) ({ cls := "DemandTerms", name := "spread", desc := "()I" } : Jvm.MethodName)) ∈ AW := AW_t 406 (by decide +kernel) rfl
theorem k407 : (Jvm.Cond.instanceMethod ({ cls := "DemandTerms", name := "spread", desc := "()I" } : Jvm.MethodName)) ∈ AW := AW_t 407 (by decide +kernel) rfl
theorem k408 : (Jvm.Cond.selects "DemandTerms" ({ cls := "DemandTerms", name := "spread", desc := "()I" } : Jvm.MethodName) ({ cls := "DemandTerms", name := "spread", desc := "()I" } : Jvm.MethodName)) ∈ AW := AW_t 408 (by decide +kernel) rfl
set_option maxRecDepth 100000 in
theorem k409 : (Jvm.Cond.code ({ cls := "DemandTerms", name := "spread", desc := "()I" } : Jvm.MethodName) prog_1_method_20_code (5 : Nat) (Option.some Jvm.ClassFile.FieldType.int)) ∈ AW := AW_t 409 rfl rfl
theorem k410 : (Jvm.Cond.methodLink "DemandTerms" (147 : Nat) ({ cls := "DemandTerms", name := "firstKept", desc := "()I" } : Jvm.MethodName)) ∈ AW := AW_t 410 (by decide +kernel) rfl
theorem k412 : (Jvm.Cond.instanceMethod ({ cls := "DemandTerms", name := "firstKept", desc := "()I" } : Jvm.MethodName)) ∈ AW := AW_t 412 (by decide +kernel) rfl
set_option maxRecDepth 100000 in
theorem k413 : (Jvm.Cond.code ({ cls := "DemandTerms", name := "firstKept", desc := "()I" } : Jvm.MethodName) prog_1_method_35_code (2 : Nat) (Option.some Jvm.ClassFile.FieldType.int)) ∈ AW := AW_t 413 rfl rfl
theorem k414 : (Jvm.Cond.methodLink "DemandTerms" (150 : Nat) ({ cls := "DemandTerms", name := "force", desc := "(I)V" } : Jvm.MethodName)) ∈ AW := AW_t 414 (by decide +kernel) rfl
theorem k416 : (Jvm.Cond.instanceMethod ({ cls := "DemandTerms", name := "force", desc := "(I)V" } : Jvm.MethodName)) ∈ AW := AW_t 416 (by decide +kernel) rfl
set_option maxRecDepth 100000 in
theorem k417 : (Jvm.Cond.code ({ cls := "DemandTerms", name := "force", desc := "(I)V" } : Jvm.MethodName) prog_1_method_34_code (3 : Nat) (Option.none : Option Jvm.ClassFile.FieldType)) ∈ AW := AW_t 417 rfl rfl
theorem k418 : (Jvm.Cond.methodLink "DemandTermsLaw" (101 : Nat) ({ cls := "DemandTerms", name := "chosen", desc := "(II)I" } : Jvm.MethodName)) ∈ AW := AW_t 418 (by decide +kernel) rfl
theorem k419 : (Jvm.Cond.instanceMethod ({ cls := "DemandTerms", name := "chosen", desc := "(II)I" } : Jvm.MethodName)) ∈ AW := AW_t 419 (by decide +kernel) rfl
theorem k420 : (Jvm.Cond.selects "DemandTerms" ({ cls := "DemandTerms", name := "chosen", desc := "(II)I" } : Jvm.MethodName) ({ cls := "DemandTerms", name := "chosen", desc := "(II)I" } : Jvm.MethodName)) ∈ AW := AW_t 420 (by decide +kernel) rfl
set_option maxRecDepth 100000 in
theorem k421 : (Jvm.Cond.code ({ cls := "DemandTerms", name := "chosen", desc := "(II)I" } : Jvm.MethodName) prog_1_method_21_code (3 : Nat) (Option.some Jvm.ClassFile.FieldType.int)) ∈ AW := AW_t 421 rfl rfl
theorem k422 : (Jvm.Cond.methodLink "DemandTermsLaw" (105 : Nat) ({ cls := "DemandTerms", name := "chosenSet", desc := "(I)J" } : Jvm.MethodName)) ∈ AW := AW_t 422 (by decide +kernel) rfl
theorem k423 : (Jvm.Cond.instanceMethod ({ cls := "DemandTerms", name := "chosenSet", desc := "(I)J" } : Jvm.MethodName)) ∈ AW := AW_t 423 (by decide +kernel) rfl
theorem k424 : (Jvm.Cond.selects "DemandTerms" ({ cls := "DemandTerms", name := "chosenSet", desc := "(I)J" } : Jvm.MethodName) ({ cls := "DemandTerms", name := "chosenSet", desc := "(I)J" } : Jvm.MethodName)) ∈ AW := AW_t 424 (by decide +kernel) rfl
set_option maxRecDepth 100000 in
theorem k425 : (Jvm.Cond.code ({ cls := "DemandTerms", name := "chosenSet", desc := "(I)J" } : Jvm.MethodName) prog_1_method_22_code (2 : Nat) (Option.some Jvm.ClassFile.FieldType.long)) ∈ AW := AW_t 425 rfl rfl
theorem k426 : (Jvm.Cond.methodLink "DemandTermsLaw" (109 : Nat) ({ cls := "DemandTerms", name := "print", desc := "(I)I" } : Jvm.MethodName)) ∈ AW := AW_t 426 (by decide +kernel) rfl
theorem k427 : (Jvm.Cond.instanceMethod ({ cls := "DemandTerms", name := "print", desc := "(I)I" } : Jvm.MethodName)) ∈ AW := AW_t 427 (by decide +kernel) rfl
theorem k428 : (Jvm.Cond.selects "DemandTerms" ({ cls := "DemandTerms", name := "print", desc := "(I)I" } : Jvm.MethodName) ({ cls := "DemandTerms", name := "print", desc := "(I)I" } : Jvm.MethodName)) ∈ AW := AW_t 428 (by decide +kernel) rfl
set_option maxRecDepth 100000 in
theorem k429 : (Jvm.Cond.code ({ cls := "DemandTerms", name := "print", desc := "(I)I" } : Jvm.MethodName) prog_1_method_23_code (3 : Nat) (Option.some Jvm.ClassFile.FieldType.int)) ∈ AW := AW_t 429 rfl rfl
theorem k430 : (Jvm.Cond.methodLink "DemandTerms" (153 : Nat) ({ cls := "DemandTerms$Page", name := "clear", desc := "()V" } : Jvm.MethodName)) ∈ AW := AW_t 430 (by decide +kernel) rfl
theorem k431 : (Jvm.Cond.instanceMethod ({ cls := "DemandTerms$Page", name := "clear", desc := "()V" } : Jvm.MethodName)) ∈ AW := AW_t 431 (by decide +kernel) rfl
theorem k432 : (Jvm.Cond.selects "DemandTerms$Page" ({ cls := "DemandTerms$Page", name := "clear", desc := "()V" } : Jvm.MethodName) ({ cls := "DemandTerms$Page", name := "clear", desc := "()V" } : Jvm.MethodName)) ∈ AW := AW_t 432 (by decide +kernel) rfl
set_option maxRecDepth 100000 in
theorem k433 : (Jvm.Cond.code ({ cls := "DemandTerms$Page", name := "clear", desc := "()V" } : Jvm.MethodName) prog_5_method_3_code (1 : Nat) (Option.none : Option Jvm.ClassFile.FieldType)) ∈ AW := AW_t 433 rfl rfl
theorem k434 : (Jvm.Cond.methodLink "DemandTerms" (156 : Nat) ({ cls := "DemandTerms", name := "printPart", desc := "(IJ)V" } : Jvm.MethodName)) ∈ AW := AW_t 434 (by decide +kernel) rfl
theorem k436 : (Jvm.Cond.instanceMethod ({ cls := "DemandTerms", name := "printPart", desc := "(IJ)V" } : Jvm.MethodName)) ∈ AW := AW_t 436 (by decide +kernel) rfl
set_option maxRecDepth 100000 in
theorem k437 : (Jvm.Cond.code ({ cls := "DemandTerms", name := "printPart", desc := "(IJ)V" } : Jvm.MethodName) prog_1_method_36_code (4 : Nat) (Option.none : Option Jvm.ClassFile.FieldType)) ∈ AW := AW_t 437 rfl rfl
theorem k438 : (Jvm.Cond.methodLink "DemandTerms" (159 : Nat) ({ cls := "DemandTerms$Page", name := "length", desc := "()I" } : Jvm.MethodName)) ∈ AW := AW_t 438 (by decide +kernel) rfl
theorem k439 : (Jvm.Cond.instanceMethod ({ cls := "DemandTerms$Page", name := "length", desc := "()I" } : Jvm.MethodName)) ∈ AW := AW_t 439 (by decide +kernel) rfl
theorem k440 : (Jvm.Cond.selects "DemandTerms$Page" ({ cls := "DemandTerms$Page", name := "length", desc := "()I" } : Jvm.MethodName) ({ cls := "DemandTerms$Page", name := "length", desc := "()I" } : Jvm.MethodName)) ∈ AW := AW_t 440 (by decide +kernel) rfl
set_option maxRecDepth 100000 in
theorem k441 : (Jvm.Cond.code ({ cls := "DemandTerms$Page", name := "length", desc := "()I" } : Jvm.MethodName) prog_5_method_2_code (1 : Nat) (Option.some Jvm.ClassFile.FieldType.int)) ∈ AW := AW_t 441 rfl rfl
theorem k442 : (Jvm.Cond.methodLink "DemandTerms" (210 : Nat) ({ cls := "DemandTerms$Page", name := "put", desc := "(C)V" } : Jvm.MethodName)) ∈ AW := AW_t 442 (by decide +kernel) rfl
theorem k443 : (Jvm.Cond.instanceMethod ({ cls := "DemandTerms$Page", name := "put", desc := "(C)V" } : Jvm.MethodName)) ∈ AW := AW_t 443 (by decide +kernel) rfl
theorem k444 : (Jvm.Cond.selects "DemandTerms$Page" ({ cls := "DemandTerms$Page", name := "put", desc := "(C)V" } : Jvm.MethodName) ({ cls := "DemandTerms$Page", name := "put", desc := "(C)V" } : Jvm.MethodName)) ∈ AW := AW_t 444 (by decide +kernel) rfl
set_option maxRecDepth 100000 in
theorem k445 : (Jvm.Cond.code ({ cls := "DemandTerms$Page", name := "put", desc := "(C)V" } : Jvm.MethodName) prog_5_method_4_code (2 : Nat) (Option.none : Option Jvm.ClassFile.FieldType)) ∈ AW := AW_t 445 rfl rfl
theorem k446 : (Jvm.Cond.methodLink "DemandTerms" (213 : Nat) ({ cls := "DemandTerms$Page", name := "putRuns", desc := "(J)V" } : Jvm.MethodName)) ∈ AW := AW_t 446 (by decide +kernel) rfl
theorem k447 : (Jvm.Cond.instanceMethod ({ cls := "DemandTerms$Page", name := "putRuns", desc := "(J)V" } : Jvm.MethodName)) ∈ AW := AW_t 447 (by decide +kernel) rfl
theorem k448 : (Jvm.Cond.selects "DemandTerms$Page" ({ cls := "DemandTerms$Page", name := "putRuns", desc := "(J)V" } : Jvm.MethodName) ({ cls := "DemandTerms$Page", name := "putRuns", desc := "(J)V" } : Jvm.MethodName)) ∈ AW := AW_t 448 (by decide +kernel) rfl
set_option maxRecDepth 100000 in
theorem k449 : (Jvm.Cond.code ({ cls := "DemandTerms$Page", name := "putRuns", desc := "(J)V" } : Jvm.MethodName) prog_5_method_5_code (9 : Nat) (Option.none : Option Jvm.ClassFile.FieldType)) ∈ AW := AW_t 449 rfl rfl
theorem k450 : (Jvm.Cond.constantLong "DemandTerms$Page" (19 : Nat) (-1 : Int64)) ∈ AW := AW_t 450 (by decide +kernel) rfl
theorem k452 : (Jvm.Cond.methodLink "DemandTerms$Page" (25 : Nat) ({ cls := "DemandTerms$Page", name := "put", desc := "(C)V" } : Jvm.MethodName)) ∈ AW := AW_t 452 (by decide +kernel) rfl
theorem k453 : (Jvm.Cond.methodLink "DemandTerms$Page" (29 : Nat) ({ cls := "DemandTerms$Page", name := "putNumber", desc := "(I)V" } : Jvm.MethodName)) ∈ AW := AW_t 453 (by decide +kernel) rfl
theorem k455 : (Jvm.Cond.instanceMethod ({ cls := "DemandTerms$Page", name := "putNumber", desc := "(I)V" } : Jvm.MethodName)) ∈ AW := AW_t 455 (by decide +kernel) rfl
set_option maxRecDepth 100000 in
theorem k456 : (Jvm.Cond.code ({ cls := "DemandTerms$Page", name := "putNumber", desc := "(I)V" } : Jvm.MethodName) prog_5_method_6_code (2 : Nat) (Option.none : Option Jvm.ClassFile.FieldType)) ∈ AW := AW_t 456 rfl rfl
theorem k457 : (Jvm.Cond.methodLink "DemandTermsLaw" (113 : Nat) ({ cls := "DemandTerms", name := "at", desc := "(I)I" } : Jvm.MethodName)) ∈ AW := AW_t 457 (by decide +kernel) rfl
theorem k458 : (Jvm.Cond.instanceMethod ({ cls := "DemandTerms", name := "at", desc := "(I)I" } : Jvm.MethodName)) ∈ AW := AW_t 458 (by decide +kernel) rfl
theorem k459 : (Jvm.Cond.selects "DemandTerms" ({ cls := "DemandTerms", name := "at", desc := "(I)I" } : Jvm.MethodName) ({ cls := "DemandTerms", name := "at", desc := "(I)I" } : Jvm.MethodName)) ∈ AW := AW_t 459 (by decide +kernel) rfl
set_option maxRecDepth 100000 in
theorem k460 : (Jvm.Cond.code ({ cls := "DemandTerms", name := "at", desc := "(I)I" } : Jvm.MethodName) prog_1_method_24_code (2 : Nat) (Option.some Jvm.ClassFile.FieldType.int)) ∈ AW := AW_t 460 rfl rfl
theorem k461 : (Jvm.Cond.methodLink "DemandTerms" (162 : Nat) ({ cls := "DemandTerms$Page", name := "signAt", desc := "(I)I" } : Jvm.MethodName)) ∈ AW := AW_t 461 (by decide +kernel) rfl
theorem k462 : (Jvm.Cond.instanceMethod ({ cls := "DemandTerms$Page", name := "signAt", desc := "(I)I" } : Jvm.MethodName)) ∈ AW := AW_t 462 (by decide +kernel) rfl
theorem k463 : (Jvm.Cond.selects "DemandTerms$Page" ({ cls := "DemandTerms$Page", name := "signAt", desc := "(I)I" } : Jvm.MethodName) ({ cls := "DemandTerms$Page", name := "signAt", desc := "(I)I" } : Jvm.MethodName)) ∈ AW := AW_t 463 (by decide +kernel) rfl
set_option maxRecDepth 100000 in
theorem k464 : (Jvm.Cond.code ({ cls := "DemandTerms$Page", name := "signAt", desc := "(I)I" } : Jvm.MethodName) prog_5_method_7_code (2 : Nat) (Option.some Jvm.ClassFile.FieldType.int)) ∈ AW := AW_t 464 rfl rfl
theorem k465 : (Jvm.Cond.classLink "DemandTermsLaw" (10 : Nat) "DemandTermsModel") ∈ AW := AW_t 465 (by decide +kernel) rfl
theorem k466 : (Jvm.Cond.instantiable "DemandTermsModel" (22 : Nat)) ∈ AW := AW_t 466 (by decide +kernel) rfl
theorem k467 : (Jvm.Cond.methodLink "DemandTermsLaw" (12 : Nat) ({ cls := "DemandTermsModel", name := "<init>", desc := "()V" } : Jvm.MethodName)) ∈ AW := AW_t 467 (by decide +kernel) rfl
theorem k468 : (Jvm.Cond.instanceMethod ({ cls := "DemandTermsModel", name := "<init>", desc := "()V" } : Jvm.MethodName)) ∈ AW := AW_t 468 (by decide +kernel) rfl
set_option maxRecDepth 100000 in
theorem k469 : (Jvm.Cond.code ({ cls := "DemandTermsModel", name := "<init>", desc := "()V" } : Jvm.MethodName) prog_8_method_1_code (1 : Nat) (Option.none : Option Jvm.ClassFile.FieldType)) ∈ AW := AW_t 469 rfl rfl
theorem k470 : (Jvm.Cond.methodLink "DemandTermsModel" (1 : Nat) ({ cls := "java/lang/Object", name := "<init>", desc := "()V" } : Jvm.MethodName)) ∈ AW := AW_t 470 (by decide +kernel) rfl
theorem k471 : (Jvm.Cond.constant "DemandTermsModel" (16 : Nat) (265580 : Int32)) ∈ AW := AW_t 471 (by decide +kernel) rfl
theorem k472 : (Jvm.Cond.fieldLink "DemandTermsModel" (61 : Nat) "DemandTermsModel" "code" "I") ∈ AW := AW_t 472 (by decide +kernel) rfl
theorem k473 : (Jvm.Cond.fieldLink "DemandTermsModel" (7 : Nat) "DemandTermsModel" "versions" "[I") ∈ AW := AW_t 473 (by decide +kernel) rfl
theorem k474 : (Jvm.Cond.fieldLink "DemandTermsModel" (65 : Nat) "DemandTermsModel" "names" "I") ∈ AW := AW_t 474 (by decide +kernel) rfl
theorem k475 : (Jvm.Cond.fieldLink "DemandTermsModel" (68 : Nat) "DemandTermsModel" "terms" "I") ∈ AW := AW_t 475 (by decide +kernel) rfl
theorem k476 : (Jvm.Cond.fieldLink "DemandTermsModel" (71 : Nat) "DemandTermsModel" "bars" "I") ∈ AW := AW_t 476 (by decide +kernel) rfl
theorem k477 : (Jvm.Cond.fieldLink "DemandTermsModel" (118 : Nat) "DemandTermsModel" "needs" "I") ∈ AW := AW_t 477 (by decide +kernel) rfl
theorem k478 : (Jvm.Cond.fieldLink "DemandTermsModel" (13 : Nat) "DemandTermsModel" "nameOf" "[I") ∈ AW := AW_t 478 (by decide +kernel) rfl
theorem k479 : (Jvm.Cond.fieldLink "DemandTermsModel" (17 : Nat) "DemandTermsModel" "says" "[Z") ∈ AW := AW_t 479 (by decide +kernel) rfl
theorem k480 : (Jvm.Cond.fieldLink "DemandTermsModel" (21 : Nat) "DemandTermsModel" "parts" "[I") ∈ AW := AW_t 480 (by decide +kernel) rfl
theorem k481 : (Jvm.Cond.fieldLink "DemandTermsModel" (24 : Nat) "DemandTermsModel" "dName" "[I") ∈ AW := AW_t 481 (by decide +kernel) rfl
theorem k482 : (Jvm.Cond.fieldLink "DemandTermsModel" (27 : Nat) "DemandTermsModel" "dFirst" "[I") ∈ AW := AW_t 482 (by decide +kernel) rfl
theorem k483 : (Jvm.Cond.fieldLink "DemandTermsModel" (30 : Nat) "DemandTermsModel" "dLast" "[I") ∈ AW := AW_t 483 (by decide +kernel) rfl
theorem k484 : (Jvm.Cond.fieldLink "DemandTermsModel" (33 : Nat) "DemandTermsModel" "dOther" "[I") ∈ AW := AW_t 484 (by decide +kernel) rfl
theorem k485 : (Jvm.Cond.fieldLink "DemandTermsModel" (36 : Nat) "DemandTermsModel" "dKind" "[I") ∈ AW := AW_t 485 (by decide +kernel) rfl
theorem k486 : (Jvm.Cond.fieldLink "DemandTermsModel" (39 : Nat) "DemandTermsModel" "dSet" "[J") ∈ AW := AW_t 486 (by decide +kernel) rfl
theorem k487 : (Jvm.Cond.fieldLink "DemandTermsModel" (43 : Nat) "DemandTermsModel" "nName" "[I") ∈ AW := AW_t 487 (by decide +kernel) rfl
theorem k488 : (Jvm.Cond.fieldLink "DemandTermsModel" (46 : Nat) "DemandTermsModel" "nVersion" "[I") ∈ AW := AW_t 488 (by decide +kernel) rfl
theorem k489 : (Jvm.Cond.fieldLink "DemandTermsModel" (49 : Nat) "DemandTermsModel" "nOther" "[I") ∈ AW := AW_t 489 (by decide +kernel) rfl
theorem k490 : (Jvm.Cond.fieldLink "DemandTermsModel" (52 : Nat) "DemandTermsModel" "nKind" "[I") ∈ AW := AW_t 490 (by decide +kernel) rfl
theorem k491 : (Jvm.Cond.fieldLink "DemandTermsModel" (55 : Nat) "DemandTermsModel" "nSet" "[J") ∈ AW := AW_t 491 (by decide +kernel) rfl
theorem k492 : (Jvm.Cond.fieldLink "DemandTermsModel" (58 : Nat) "DemandTermsModel" "out" "[I") ∈ AW := AW_t 492 (by decide +kernel) rfl
theorem k493 : (Jvm.Cond.fieldLink "DemandTermsModel" (177 : Nat) "DemandTermsModel" "printed" "I") ∈ AW := AW_t 493 (by decide +kernel) rfl
theorem k539 : (Jvm.Cond.arrayClass Jvm.ClassFile.FieldType.boolean) ∈ AW := AW_t 539 (by decide +kernel) rfl
theorem k540 : (Jvm.Cond.methodLink "DemandTermsLaw" (17 : Nat) ({ cls := "DemandTermsModel", name := "versions", desc := "(I)I" } : Jvm.MethodName)) ∈ AW := AW_t 540 (by decide +kernel) rfl
theorem k541 : (Jvm.Cond.instanceMethod ({ cls := "DemandTermsModel", name := "versions", desc := "(I)I" } : Jvm.MethodName)) ∈ AW := AW_t 541 (by decide +kernel) rfl
theorem k542 : (Jvm.Cond.selects "DemandTermsModel" ({ cls := "DemandTermsModel", name := "versions", desc := "(I)I" } : Jvm.MethodName) ({ cls := "DemandTermsModel", name := "versions", desc := "(I)I" } : Jvm.MethodName)) ∈ AW := AW_t 542 (by decide +kernel) rfl
set_option maxRecDepth 100000 in
theorem k543 : (Jvm.Cond.code ({ cls := "DemandTermsModel", name := "versions", desc := "(I)I" } : Jvm.MethodName) prog_8_method_6_code (2 : Nat) (Option.some Jvm.ClassFile.FieldType.int)) ∈ AW := AW_t 543 rfl rfl
theorem k544 : (Jvm.Cond.methodLink "DemandTermsModel" (74 : Nat) ({ cls := "DemandTermsModel", name := "full", desc := "(I)V" } : Jvm.MethodName)) ∈ AW := AW_t 544 (by decide +kernel) rfl
theorem k546 : (Jvm.Cond.instanceMethod ({ cls := "DemandTermsModel", name := "full", desc := "(I)V" } : Jvm.MethodName)) ∈ AW := AW_t 546 (by decide +kernel) rfl
set_option maxRecDepth 100000 in
theorem k547 : (Jvm.Cond.code ({ cls := "DemandTermsModel", name := "full", desc := "(I)V" } : Jvm.MethodName) prog_8_method_9_code (3 : Nat) (Option.none : Option Jvm.ClassFile.FieldType)) ∈ AW := AW_t 547 rfl rfl
theorem k548 : (Jvm.Cond.methodLink "DemandTermsModel" (78 : Nat) ({ cls := "DemandTermsModel", name := "tell", desc := "(IIZ)V" } : Jvm.MethodName)) ∈ AW := AW_t 548 (by decide +kernel) rfl
theorem k550 : (Jvm.Cond.instanceMethod ({ cls := "DemandTermsModel", name := "tell", desc := "(IIZ)V" } : Jvm.MethodName)) ∈ AW := AW_t 550 (by decide +kernel) rfl
set_option maxRecDepth 100000 in
theorem k551 : (Jvm.Cond.code ({ cls := "DemandTermsModel", name := "tell", desc := "(IIZ)V" } : Jvm.MethodName) prog_8_method_8_code (4 : Nat) (Option.none : Option Jvm.ClassFile.FieldType)) ∈ AW := AW_t 551 rfl rfl
theorem k552 : (Jvm.Cond.methodLink "DemandTermsLaw" (24 : Nat) ({ cls := "DemandTermsModel", name := "term", desc := "(IJZ)I" } : Jvm.MethodName)) ∈ AW := AW_t 552 (by decide +kernel) rfl
theorem k553 : (Jvm.Cond.instanceMethod ({ cls := "DemandTermsModel", name := "term", desc := "(IJZ)I" } : Jvm.MethodName)) ∈ AW := AW_t 553 (by decide +kernel) rfl
theorem k554 : (Jvm.Cond.selects "DemandTermsModel" ({ cls := "DemandTermsModel", name := "term", desc := "(IJZ)I" } : Jvm.MethodName) ({ cls := "DemandTermsModel", name := "term", desc := "(IJZ)I" } : Jvm.MethodName)) ∈ AW := AW_t 554 (by decide +kernel) rfl
set_option maxRecDepth 100000 in
theorem k555 : (Jvm.Cond.code ({ cls := "DemandTermsModel", name := "term", desc := "(IJZ)I" } : Jvm.MethodName) prog_8_method_18_code (5 : Nat) (Option.some Jvm.ClassFile.FieldType.int)) ∈ AW := AW_t 555 rfl rfl
theorem k556 : (Jvm.Cond.methodLink "DemandTermsModel" (93 : Nat) ({ cls := "DemandTermsModel", name := "isName", desc := "(I)Z" } : Jvm.MethodName)) ∈ AW := AW_t 556 (by decide +kernel) rfl
theorem k558 : (Jvm.Cond.instanceMethod ({ cls := "DemandTermsModel", name := "isName", desc := "(I)Z" } : Jvm.MethodName)) ∈ AW := AW_t 558 (by decide +kernel) rfl
set_option maxRecDepth 100000 in
theorem k559 : (Jvm.Cond.code ({ cls := "DemandTermsModel", name := "isName", desc := "(I)Z" } : Jvm.MethodName) prog_8_method_3_code (2 : Nat) (Option.some Jvm.ClassFile.FieldType.boolean)) ∈ AW := AW_t 559 rfl rfl
theorem k560 : (Jvm.Cond.methodLink "DemandTermsModel" (96 : Nat) ({ cls := "DemandTermsModel", name := "make", desc := "(IIJZ)V" } : Jvm.MethodName)) ∈ AW := AW_t 560 (by decide +kernel) rfl
theorem k562 : (Jvm.Cond.instanceMethod ({ cls := "DemandTermsModel", name := "make", desc := "(IIJZ)V" } : Jvm.MethodName)) ∈ AW := AW_t 562 (by decide +kernel) rfl
set_option maxRecDepth 100000 in
theorem k563 : (Jvm.Cond.code ({ cls := "DemandTermsModel", name := "make", desc := "(IIJZ)V" } : Jvm.MethodName) prog_8_method_10_code (7 : Nat) (Option.none : Option Jvm.ClassFile.FieldType)) ∈ AW := AW_t 563 rfl rfl
theorem k564 : (Jvm.Cond.methodLink "DemandTermsLaw" (29 : Nat) ({ cls := "DemandTermsModel", name := "both", desc := "(IIZ)I" } : Jvm.MethodName)) ∈ AW := AW_t 564 (by decide +kernel) rfl
theorem k565 : (Jvm.Cond.instanceMethod ({ cls := "DemandTermsModel", name := "both", desc := "(IIZ)I" } : Jvm.MethodName)) ∈ AW := AW_t 565 (by decide +kernel) rfl
theorem k566 : (Jvm.Cond.selects "DemandTermsModel" ({ cls := "DemandTermsModel", name := "both", desc := "(IIZ)I" } : Jvm.MethodName) ({ cls := "DemandTermsModel", name := "both", desc := "(IIZ)I" } : Jvm.MethodName)) ∈ AW := AW_t 566 (by decide +kernel) rfl
set_option maxRecDepth 100000 in
theorem k567 : (Jvm.Cond.code ({ cls := "DemandTermsModel", name := "both", desc := "(IIZ)I" } : Jvm.MethodName) prog_8_method_19_code (4 : Nat) (Option.some Jvm.ClassFile.FieldType.int)) ∈ AW := AW_t 567 rfl rfl
theorem k568 : (Jvm.Cond.methodLink "DemandTermsModel" (100 : Nat) ({ cls := "DemandTermsModel", name := "isTerm", desc := "(I)Z" } : Jvm.MethodName)) ∈ AW := AW_t 568 (by decide +kernel) rfl
theorem k570 : (Jvm.Cond.instanceMethod ({ cls := "DemandTermsModel", name := "isTerm", desc := "(I)Z" } : Jvm.MethodName)) ∈ AW := AW_t 570 (by decide +kernel) rfl
set_option maxRecDepth 100000 in
theorem k571 : (Jvm.Cond.code ({ cls := "DemandTermsModel", name := "isTerm", desc := "(I)Z" } : Jvm.MethodName) prog_8_method_4_code (2 : Nat) (Option.some Jvm.ClassFile.FieldType.boolean)) ∈ AW := AW_t 571 rfl rfl
theorem k572 : (Jvm.Cond.methodLink "DemandTermsModel" (103 : Nat) ({ cls := "DemandTermsModel", name := "join", desc := "(IIIZ)V" } : Jvm.MethodName)) ∈ AW := AW_t 572 (by decide +kernel) rfl
theorem k574 : (Jvm.Cond.instanceMethod ({ cls := "DemandTermsModel", name := "join", desc := "(IIIZ)V" } : Jvm.MethodName)) ∈ AW := AW_t 574 (by decide +kernel) rfl
set_option maxRecDepth 100000 in
theorem k575 : (Jvm.Cond.code ({ cls := "DemandTermsModel", name := "join", desc := "(IIIZ)V" } : Jvm.MethodName) prog_8_method_12_code (6 : Nat) (Option.none : Option Jvm.ClassFile.FieldType)) ∈ AW := AW_t 575 rfl rfl
theorem k576 : (Jvm.Cond.methodLink "DemandTermsModel" (82 : Nat) ({ cls := "DemandTermsModel", name := "isSaid", desc := "(II)Z" } : Jvm.MethodName)) ∈ AW := AW_t 576 (by decide +kernel) rfl
theorem k578 : (Jvm.Cond.instanceMethod ({ cls := "DemandTermsModel", name := "isSaid", desc := "(II)Z" } : Jvm.MethodName)) ∈ AW := AW_t 578 (by decide +kernel) rfl
set_option maxRecDepth 100000 in
theorem k579 : (Jvm.Cond.code ({ cls := "DemandTermsModel", name := "isSaid", desc := "(II)Z" } : Jvm.MethodName) prog_8_method_7_code (3 : Nat) (Option.some Jvm.ClassFile.FieldType.boolean)) ∈ AW := AW_t 579 rfl rfl
theorem k580 : (Jvm.Cond.methodLink "DemandTermsLaw" (34 : Nat) ({ cls := "DemandTermsModel", name := "relate", desc := "(II)I" } : Jvm.MethodName)) ∈ AW := AW_t 580 (by decide +kernel) rfl
theorem k581 : (Jvm.Cond.instanceMethod ({ cls := "DemandTermsModel", name := "relate", desc := "(II)I" } : Jvm.MethodName)) ∈ AW := AW_t 581 (by decide +kernel) rfl
theorem k582 : (Jvm.Cond.selects "DemandTermsModel" ({ cls := "DemandTermsModel", name := "relate", desc := "(II)I" } : Jvm.MethodName) ({ cls := "DemandTermsModel", name := "relate", desc := "(II)I" } : Jvm.MethodName)) ∈ AW := AW_t 582 (by decide +kernel) rfl
set_option maxRecDepth 100000 in
theorem k583 : (Jvm.Cond.code ({ cls := "DemandTermsModel", name := "relate", desc := "(II)I" } : Jvm.MethodName) prog_8_method_21_code (3 : Nat) (Option.some Jvm.ClassFile.FieldType.int)) ∈ AW := AW_t 583 rfl rfl
theorem k584 : (Jvm.Cond.methodLink "DemandTermsModel" (107 : Nat) ({ cls := "DemandTermsModel", name := "relation", desc := "(II)I" } : Jvm.MethodName)) ∈ AW := AW_t 584 (by decide +kernel) rfl
theorem k586 : (Jvm.Cond.instanceMethod ({ cls := "DemandTermsModel", name := "relation", desc := "(II)I" } : Jvm.MethodName)) ∈ AW := AW_t 586 (by decide +kernel) rfl
set_option maxRecDepth 100000 in
theorem k587 : (Jvm.Cond.code ({ cls := "DemandTermsModel", name := "relation", desc := "(II)I" } : Jvm.MethodName) prog_8_method_20_code (6 : Nat) (Option.some Jvm.ClassFile.FieldType.int)) ∈ AW := AW_t 587 rfl rfl
theorem k588 : (Jvm.Cond.methodLink "DemandTermsLaw" (38 : Nat) ({ cls := "DemandTermsModel", name := "about", desc := "(II)I" } : Jvm.MethodName)) ∈ AW := AW_t 588 (by decide +kernel) rfl
theorem k589 : (Jvm.Cond.instanceMethod ({ cls := "DemandTermsModel", name := "about", desc := "(II)I" } : Jvm.MethodName)) ∈ AW := AW_t 589 (by decide +kernel) rfl
theorem k590 : (Jvm.Cond.selects "DemandTermsModel" ({ cls := "DemandTermsModel", name := "about", desc := "(II)I" } : Jvm.MethodName) ({ cls := "DemandTermsModel", name := "about", desc := "(II)I" } : Jvm.MethodName)) ∈ AW := AW_t 590 (by decide +kernel) rfl
set_option maxRecDepth 100000 in
theorem k591 : (Jvm.Cond.code ({ cls := "DemandTermsModel", name := "about", desc := "(II)I" } : Jvm.MethodName) prog_8_method_22_code (3 : Nat) (Option.some Jvm.ClassFile.FieldType.int)) ∈ AW := AW_t 591 rfl rfl
theorem k592 : (Jvm.Cond.methodLink "DemandTermsModel" (111 : Nat) ({ cls := "DemandTermsModel", name := "aboutOf", desc := "(II)I" } : Jvm.MethodName)) ∈ AW := AW_t 592 (by decide +kernel) rfl
theorem k594 : (Jvm.Cond.instanceMethod ({ cls := "DemandTermsModel", name := "aboutOf", desc := "(II)I" } : Jvm.MethodName)) ∈ AW := AW_t 594 (by decide +kernel) rfl
set_option maxRecDepth 100000 in
theorem k595 : (Jvm.Cond.code ({ cls := "DemandTermsModel", name := "aboutOf", desc := "(II)I" } : Jvm.MethodName) prog_8_method_17_code (5 : Nat) (Option.some Jvm.ClassFile.FieldType.int)) ∈ AW := AW_t 595 rfl rfl
theorem k596 : (Jvm.Cond.methodLink "DemandTermsModel" (90 : Nat) ({ cls := "DemandTermsModel", name := "isListed", desc := "(II)Z" } : Jvm.MethodName)) ∈ AW := AW_t 596 (by decide +kernel) rfl
theorem k598 : (Jvm.Cond.instanceMethod ({ cls := "DemandTermsModel", name := "isListed", desc := "(II)Z" } : Jvm.MethodName)) ∈ AW := AW_t 598 (by decide +kernel) rfl
set_option maxRecDepth 100000 in
theorem k599 : (Jvm.Cond.code ({ cls := "DemandTermsModel", name := "isListed", desc := "(II)Z" } : Jvm.MethodName) prog_8_method_15_code (3 : Nat) (Option.some Jvm.ClassFile.FieldType.boolean)) ∈ AW := AW_t 599 rfl rfl
theorem k600 : (Jvm.Cond.methodLink "DemandTermsModel" (86 : Nat) ({ cls := "DemandTermsModel", name := "isWanted", desc := "(I)Z" } : Jvm.MethodName)) ∈ AW := AW_t 600 (by decide +kernel) rfl
theorem k602 : (Jvm.Cond.instanceMethod ({ cls := "DemandTermsModel", name := "isWanted", desc := "(I)Z" } : Jvm.MethodName)) ∈ AW := AW_t 602 (by decide +kernel) rfl
set_option maxRecDepth 100000 in
theorem k603 : (Jvm.Cond.code ({ cls := "DemandTermsModel", name := "isWanted", desc := "(I)Z" } : Jvm.MethodName) prog_8_method_14_code (2 : Nat) (Option.some Jvm.ClassFile.FieldType.boolean)) ∈ AW := AW_t 603 rfl rfl
theorem k604 : (Jvm.Cond.methodLink "DemandTermsLaw" (43 : Nat) ({ cls := "DemandTermsModel", name := "set", desc := "(I)J" } : Jvm.MethodName)) ∈ AW := AW_t 604 (by decide +kernel) rfl
theorem k605 : (Jvm.Cond.instanceMethod ({ cls := "DemandTermsModel", name := "set", desc := "(I)J" } : Jvm.MethodName)) ∈ AW := AW_t 605 (by decide +kernel) rfl
theorem k606 : (Jvm.Cond.selects "DemandTermsModel" ({ cls := "DemandTermsModel", name := "set", desc := "(I)J" } : Jvm.MethodName) ({ cls := "DemandTermsModel", name := "set", desc := "(I)J" } : Jvm.MethodName)) ∈ AW := AW_t 606 (by decide +kernel) rfl
set_option maxRecDepth 100000 in
theorem k607 : (Jvm.Cond.code ({ cls := "DemandTermsModel", name := "set", desc := "(I)J" } : Jvm.MethodName) prog_8_method_23_code (2 : Nat) (Option.some Jvm.ClassFile.FieldType.long)) ∈ AW := AW_t 607 rfl rfl
theorem k608 : (Jvm.Cond.methodLink "DemandTermsModel" (114 : Nat) ({ cls := "DemandTermsModel", name := "setOf", desc := "(I)J" } : Jvm.MethodName)) ∈ AW := AW_t 608 (by decide +kernel) rfl
theorem k610 : (Jvm.Cond.instanceMethod ({ cls := "DemandTermsModel", name := "setOf", desc := "(I)J" } : Jvm.MethodName)) ∈ AW := AW_t 610 (by decide +kernel) rfl
set_option maxRecDepth 100000 in
theorem k611 : (Jvm.Cond.code ({ cls := "DemandTermsModel", name := "setOf", desc := "(I)J" } : Jvm.MethodName) prog_8_method_16_code (5 : Nat) (Option.some Jvm.ClassFile.FieldType.long)) ∈ AW := AW_t 611 rfl rfl
theorem k612 : (Jvm.Cond.methodLink "DemandTermsLaw" (48 : Nat) ({ cls := "DemandTermsModel", name := "needs", desc := "(IIIJI)Z" } : Jvm.MethodName)) ∈ AW := AW_t 612 (by decide +kernel) rfl
theorem k613 : (Jvm.Cond.instanceMethod ({ cls := "DemandTermsModel", name := "needs", desc := "(IIIJI)Z" } : Jvm.MethodName)) ∈ AW := AW_t 613 (by decide +kernel) rfl
theorem k614 : (Jvm.Cond.selects "DemandTermsModel" ({ cls := "DemandTermsModel", name := "needs", desc := "(IIIJI)Z" } : Jvm.MethodName) ({ cls := "DemandTermsModel", name := "needs", desc := "(IIIJI)Z" } : Jvm.MethodName)) ∈ AW := AW_t 614 (by decide +kernel) rfl
set_option maxRecDepth 100000 in
theorem k615 : (Jvm.Cond.code ({ cls := "DemandTermsModel", name := "needs", desc := "(IIIJI)Z" } : Jvm.MethodName) prog_8_method_25_code (7 : Nat) (Option.some Jvm.ClassFile.FieldType.boolean)) ∈ AW := AW_t 615 rfl rfl
theorem k616 : (Jvm.Cond.methodLink "DemandTermsModel" (121 : Nat) ({ cls := "DemandTermsModel", name := "there", desc := "(IJ)J" } : Jvm.MethodName)) ∈ AW := AW_t 616 (by decide +kernel) rfl
theorem k618 : (Jvm.Cond.instanceMethod ({ cls := "DemandTermsModel", name := "there", desc := "(IJ)J" } : Jvm.MethodName)) ∈ AW := AW_t 618 (by decide +kernel) rfl
set_option maxRecDepth 100000 in
theorem k619 : (Jvm.Cond.code ({ cls := "DemandTermsModel", name := "there", desc := "(IJ)J" } : Jvm.MethodName) prog_8_method_24_code (7 : Nat) (Option.some Jvm.ClassFile.FieldType.long)) ∈ AW := AW_t 619 rfl rfl
theorem k620 : (Jvm.Cond.methodLink "DemandTermsLaw" (52 : Nat) ({ cls := "DemandTermsModel", name := "derive", desc := "(II)I" } : Jvm.MethodName)) ∈ AW := AW_t 620 (by decide +kernel) rfl
theorem k621 : (Jvm.Cond.instanceMethod ({ cls := "DemandTermsModel", name := "derive", desc := "(II)I" } : Jvm.MethodName)) ∈ AW := AW_t 621 (by decide +kernel) rfl
theorem k622 : (Jvm.Cond.selects "DemandTermsModel" ({ cls := "DemandTermsModel", name := "derive", desc := "(II)I" } : Jvm.MethodName) ({ cls := "DemandTermsModel", name := "derive", desc := "(II)I" } : Jvm.MethodName)) ∈ AW := AW_t 622 (by decide +kernel) rfl
set_option maxRecDepth 100000 in
theorem k623 : (Jvm.Cond.code ({ cls := "DemandTermsModel", name := "derive", desc := "(II)I" } : Jvm.MethodName) prog_8_method_32_code (5 : Nat) (Option.some Jvm.ClassFile.FieldType.int)) ∈ AW := AW_t 623 rfl rfl
theorem k624 : (Jvm.Cond.methodLink "DemandTermsModel" (145 : Nat) ({ cls := "DemandTermsModel", name := "isDerived", desc := "(II)Z" } : Jvm.MethodName)) ∈ AW := AW_t 624 (by decide +kernel) rfl
theorem k626 : (Jvm.Cond.instanceMethod ({ cls := "DemandTermsModel", name := "isDerived", desc := "(II)Z" } : Jvm.MethodName)) ∈ AW := AW_t 626 (by decide +kernel) rfl
set_option maxRecDepth 100000 in
theorem k627 : (Jvm.Cond.code ({ cls := "DemandTermsModel", name := "isDerived", desc := "(II)Z" } : Jvm.MethodName) prog_8_method_28_code (5 : Nat) (Option.some Jvm.ClassFile.FieldType.boolean)) ∈ AW := AW_t 627 rfl rfl
theorem k628 : (Jvm.Cond.methodLink "DemandTermsModel" (148 : Nat) ({ cls := "DemandTermsModel", name := "deriveRow", desc := "(I)V" } : Jvm.MethodName)) ∈ AW := AW_t 628 (by decide +kernel) rfl
theorem k630 : (Jvm.Cond.instanceMethod ({ cls := "DemandTermsModel", name := "deriveRow", desc := "(I)V" } : Jvm.MethodName)) ∈ AW := AW_t 630 (by decide +kernel) rfl
set_option maxRecDepth 100000 in
theorem k631 : (Jvm.Cond.code ({ cls := "DemandTermsModel", name := "deriveRow", desc := "(I)V" } : Jvm.MethodName) prog_8_method_31_code (4 : Nat) (Option.none : Option Jvm.ClassFile.FieldType)) ∈ AW := AW_t 631 rfl rfl
theorem k632 : (Jvm.Cond.methodLink "DemandTermsModel" (136 : Nat) ({ cls := "DemandTermsModel", name := "begin", desc := "()V" } : Jvm.MethodName)) ∈ AW := AW_t 632 (by decide +kernel) rfl
theorem k634 : (Jvm.Cond.instanceMethod ({ cls := "DemandTermsModel", name := "begin", desc := "()V" } : Jvm.MethodName)) ∈ AW := AW_t 634 (by decide +kernel) rfl
set_option maxRecDepth 100000 in
theorem k635 : (Jvm.Cond.code ({ cls := "DemandTermsModel", name := "begin", desc := "()V" } : Jvm.MethodName) prog_8_method_30_code (1 : Nat) (Option.none : Option Jvm.ClassFile.FieldType)) ∈ AW := AW_t 635 rfl rfl
theorem k636 : (Jvm.Cond.methodLink "DemandTermsModel" (139 : Nat) ({ cls := "DemandTermsModel", name := "has", desc := "(II)Z" } : Jvm.MethodName)) ∈ AW := AW_t 636 (by decide +kernel) rfl
theorem k638 : (Jvm.Cond.instanceMethod ({ cls := "DemandTermsModel", name := "has", desc := "(II)Z" } : Jvm.MethodName)) ∈ AW := AW_t 638 (by decide +kernel) rfl
set_option maxRecDepth 100000 in
theorem k639 : (Jvm.Cond.code ({ cls := "DemandTermsModel", name := "has", desc := "(II)Z" } : Jvm.MethodName) prog_8_method_27_code (5 : Nat) (Option.some Jvm.ClassFile.FieldType.boolean)) ∈ AW := AW_t 639 rfl rfl
theorem k640 : (Jvm.Cond.methodLink "DemandTermsModel" (125 : Nat) ({ cls := "DemandTermsModel", name := "isAlike", desc := "(III)Z" } : Jvm.MethodName)) ∈ AW := AW_t 640 (by decide +kernel) rfl
theorem k642 : (Jvm.Cond.instanceMethod ({ cls := "DemandTermsModel", name := "isAlike", desc := "(III)Z" } : Jvm.MethodName)) ∈ AW := AW_t 642 (by decide +kernel) rfl
set_option maxRecDepth 100000 in
theorem k643 : (Jvm.Cond.code ({ cls := "DemandTermsModel", name := "isAlike", desc := "(III)Z" } : Jvm.MethodName) prog_8_method_26_code (4 : Nat) (Option.some Jvm.ClassFile.FieldType.boolean)) ∈ AW := AW_t 643 rfl rfl
theorem k644 : (Jvm.Cond.methodLink "DemandTermsModel" (142 : Nat) ({ cls := "DemandTermsModel", name := "addPart", desc := "(I)V" } : Jvm.MethodName)) ∈ AW := AW_t 644 (by decide +kernel) rfl
theorem k646 : (Jvm.Cond.instanceMethod ({ cls := "DemandTermsModel", name := "addPart", desc := "(I)V" } : Jvm.MethodName)) ∈ AW := AW_t 646 (by decide +kernel) rfl
set_option maxRecDepth 100000 in
theorem k647 : (Jvm.Cond.code ({ cls := "DemandTermsModel", name := "addPart", desc := "(I)V" } : Jvm.MethodName) prog_8_method_29_code (3 : Nat) (Option.none : Option Jvm.ClassFile.FieldType)) ∈ AW := AW_t 647 rfl rfl
theorem k648 : (Jvm.Cond.methodLink "DemandTermsModel" (129 : Nat) ({ cls := "DemandTermsModel", name := "isFull", desc := "(I)Z" } : Jvm.MethodName)) ∈ AW := AW_t 648 (by decide +kernel) rfl
theorem k650 : (Jvm.Cond.instanceMethod ({ cls := "DemandTermsModel", name := "isFull", desc := "(I)Z" } : Jvm.MethodName)) ∈ AW := AW_t 650 (by decide +kernel) rfl
set_option maxRecDepth 100000 in
theorem k651 : (Jvm.Cond.code ({ cls := "DemandTermsModel", name := "isFull", desc := "(I)Z" } : Jvm.MethodName) prog_8_method_13_code (4 : Nat) (Option.some Jvm.ClassFile.FieldType.boolean)) ∈ AW := AW_t 651 rfl rfl
theorem k652 : (Jvm.Cond.methodLink "DemandTermsModel" (132 : Nat) ({ cls := "DemandTermsModel", name := "copy", desc := "(II)V" } : Jvm.MethodName)) ∈ AW := AW_t 652 (by decide +kernel) rfl
theorem k654 : (Jvm.Cond.instanceMethod ({ cls := "DemandTermsModel", name := "copy", desc := "(II)V" } : Jvm.MethodName)) ∈ AW := AW_t 654 (by decide +kernel) rfl
set_option maxRecDepth 100000 in
theorem k655 : (Jvm.Cond.code ({ cls := "DemandTermsModel", name := "copy", desc := "(II)V" } : Jvm.MethodName) prog_8_method_11_code (4 : Nat) (Option.none : Option Jvm.ClassFile.FieldType)) ∈ AW := AW_t 655 rfl rfl
theorem k656 : (Jvm.Cond.methodLink "DemandTermsLaw" (56 : Nat) ({ cls := "DemandTermsModel", name := "bar", desc := "(IJZ)I" } : Jvm.MethodName)) ∈ AW := AW_t 656 (by decide +kernel) rfl
theorem k657 : (Jvm.Cond.instanceMethod ({ cls := "DemandTermsModel", name := "bar", desc := "(IJZ)I" } : Jvm.MethodName)) ∈ AW := AW_t 657 (by decide +kernel) rfl
theorem k658 : (Jvm.Cond.selects "DemandTermsModel" ({ cls := "DemandTermsModel", name := "bar", desc := "(IJZ)I" } : Jvm.MethodName) ({ cls := "DemandTermsModel", name := "bar", desc := "(IJZ)I" } : Jvm.MethodName)) ∈ AW := AW_t 658 (by decide +kernel) rfl
set_option maxRecDepth 100000 in
theorem k659 : (Jvm.Cond.code ({ cls := "DemandTermsModel", name := "bar", desc := "(IJZ)I" } : Jvm.MethodName) prog_8_method_33_code (5 : Nat) (Option.some Jvm.ClassFile.FieldType.int)) ∈ AW := AW_t 659 rfl rfl
theorem k660 : (Jvm.Cond.methodLink "DemandTermsLaw" (61 : Nat) ({ cls := "DemandTermsModel", name := "learn", desc := "(III)I" } : Jvm.MethodName)) ∈ AW := AW_t 660 (by decide +kernel) rfl
theorem k661 : (Jvm.Cond.instanceMethod ({ cls := "DemandTermsModel", name := "learn", desc := "(III)I" } : Jvm.MethodName)) ∈ AW := AW_t 661 (by decide +kernel) rfl
theorem k662 : (Jvm.Cond.selects "DemandTermsModel" ({ cls := "DemandTermsModel", name := "learn", desc := "(III)I" } : Jvm.MethodName) ({ cls := "DemandTermsModel", name := "learn", desc := "(III)I" } : Jvm.MethodName)) ∈ AW := AW_t 662 (by decide +kernel) rfl
set_option maxRecDepth 100000 in
theorem k663 : (Jvm.Cond.code ({ cls := "DemandTermsModel", name := "learn", desc := "(III)I" } : Jvm.MethodName) prog_8_method_35_code (7 : Nat) (Option.some Jvm.ClassFile.FieldType.int)) ∈ AW := AW_t 663 rfl rfl
theorem k664 : (Jvm.Cond.methodLink "DemandTermsModel" (151 : Nat) ({ cls := "DemandTermsModel", name := "isBar", desc := "(I)Z" } : Jvm.MethodName)) ∈ AW := AW_t 664 (by decide +kernel) rfl
theorem k666 : (Jvm.Cond.instanceMethod ({ cls := "DemandTermsModel", name := "isBar", desc := "(I)Z" } : Jvm.MethodName)) ∈ AW := AW_t 666 (by decide +kernel) rfl
set_option maxRecDepth 100000 in
theorem k667 : (Jvm.Cond.code ({ cls := "DemandTermsModel", name := "isBar", desc := "(I)Z" } : Jvm.MethodName) prog_8_method_5_code (2 : Nat) (Option.some Jvm.ClassFile.FieldType.boolean)) ∈ AW := AW_t 667 rfl rfl
theorem k668 : (Jvm.Cond.methodLink "DemandTermsModel" (154 : Nat) ({ cls := "DemandTermsModel", name := "partOf", desc := "(II)I" } : Jvm.MethodName)) ∈ AW := AW_t 668 (by decide +kernel) rfl
theorem k670 : (Jvm.Cond.instanceMethod ({ cls := "DemandTermsModel", name := "partOf", desc := "(II)I" } : Jvm.MethodName)) ∈ AW := AW_t 670 (by decide +kernel) rfl
set_option maxRecDepth 100000 in
theorem k671 : (Jvm.Cond.code ({ cls := "DemandTermsModel", name := "partOf", desc := "(II)I" } : Jvm.MethodName) prog_8_method_34_code (5 : Nat) (Option.some Jvm.ClassFile.FieldType.int)) ∈ AW := AW_t 671 rfl rfl
theorem k672 : (Jvm.Cond.methodLink "DemandTermsLaw" (66 : Nat) ({ cls := "DemandTermsModel", name := "count", desc := "()I" } : Jvm.MethodName)) ∈ AW := AW_t 672 (by decide +kernel) rfl
theorem k673 : (Jvm.Cond.instanceMethod ({ cls := "DemandTermsModel", name := "count", desc := "()I" } : Jvm.MethodName)) ∈ AW := AW_t 673 (by decide +kernel) rfl
theorem k674 : (Jvm.Cond.selects "DemandTermsModel" ({ cls := "DemandTermsModel", name := "count", desc := "()I" } : Jvm.MethodName) ({ cls := "DemandTermsModel", name := "count", desc := "()I" } : Jvm.MethodName)) ∈ AW := AW_t 674 (by decide +kernel) rfl
set_option maxRecDepth 100000 in
theorem k675 : (Jvm.Cond.code ({ cls := "DemandTermsModel", name := "count", desc := "()I" } : Jvm.MethodName) prog_8_method_36_code (1 : Nat) (Option.some Jvm.ClassFile.FieldType.int)) ∈ AW := AW_t 675 rfl rfl
theorem k676 : (Jvm.Cond.methodLink "DemandTermsLaw" (70 : Nat) ({ cls := "DemandTermsModel", name := "terms", desc := "(I)I" } : Jvm.MethodName)) ∈ AW := AW_t 676 (by decide +kernel) rfl
theorem k677 : (Jvm.Cond.instanceMethod ({ cls := "DemandTermsModel", name := "terms", desc := "(I)I" } : Jvm.MethodName)) ∈ AW := AW_t 677 (by decide +kernel) rfl
theorem k678 : (Jvm.Cond.selects "DemandTermsModel" ({ cls := "DemandTermsModel", name := "terms", desc := "(I)I" } : Jvm.MethodName) ({ cls := "DemandTermsModel", name := "terms", desc := "(I)I" } : Jvm.MethodName)) ∈ AW := AW_t 678 (by decide +kernel) rfl
set_option maxRecDepth 100000 in
theorem k679 : (Jvm.Cond.code ({ cls := "DemandTermsModel", name := "terms", desc := "(I)I" } : Jvm.MethodName) prog_8_method_37_code (2 : Nat) (Option.some Jvm.ClassFile.FieldType.int)) ∈ AW := AW_t 679 rfl rfl
theorem k680 : (Jvm.Cond.methodLink "DemandTermsLaw" (74 : Nat) ({ cls := "DemandTermsModel", name := "part", desc := "(III)I" } : Jvm.MethodName)) ∈ AW := AW_t 680 (by decide +kernel) rfl
theorem k681 : (Jvm.Cond.instanceMethod ({ cls := "DemandTermsModel", name := "part", desc := "(III)I" } : Jvm.MethodName)) ∈ AW := AW_t 681 (by decide +kernel) rfl
theorem k682 : (Jvm.Cond.selects "DemandTermsModel" ({ cls := "DemandTermsModel", name := "part", desc := "(III)I" } : Jvm.MethodName) ({ cls := "DemandTermsModel", name := "part", desc := "(III)I" } : Jvm.MethodName)) ∈ AW := AW_t 682 (by decide +kernel) rfl
set_option maxRecDepth 100000 in
theorem k683 : (Jvm.Cond.code ({ cls := "DemandTermsModel", name := "part", desc := "(III)I" } : Jvm.MethodName) prog_8_method_39_code (4 : Nat) (Option.some Jvm.ClassFile.FieldType.int)) ∈ AW := AW_t 683 rfl rfl
theorem k684 : (Jvm.Cond.methodLink "DemandTermsModel" (157 : Nat) ({ cls := "DemandTermsModel", name := "isPart", desc := "(II)Z" } : Jvm.MethodName)) ∈ AW := AW_t 684 (by decide +kernel) rfl
theorem k686 : (Jvm.Cond.instanceMethod ({ cls := "DemandTermsModel", name := "isPart", desc := "(II)Z" } : Jvm.MethodName)) ∈ AW := AW_t 686 (by decide +kernel) rfl
set_option maxRecDepth 100000 in
theorem k687 : (Jvm.Cond.code ({ cls := "DemandTermsModel", name := "isPart", desc := "(II)Z" } : Jvm.MethodName) prog_8_method_38_code (3 : Nat) (Option.some Jvm.ClassFile.FieldType.boolean)) ∈ AW := AW_t 687 rfl rfl
theorem k688 : (Jvm.Cond.methodLink "DemandTermsLaw" (79 : Nat) ({ cls := "DemandTermsModel", name := "partSet", desc := "(II)J" } : Jvm.MethodName)) ∈ AW := AW_t 688 (by decide +kernel) rfl
theorem k689 : (Jvm.Cond.instanceMethod ({ cls := "DemandTermsModel", name := "partSet", desc := "(II)J" } : Jvm.MethodName)) ∈ AW := AW_t 689 (by decide +kernel) rfl
theorem k690 : (Jvm.Cond.selects "DemandTermsModel" ({ cls := "DemandTermsModel", name := "partSet", desc := "(II)J" } : Jvm.MethodName) ({ cls := "DemandTermsModel", name := "partSet", desc := "(II)J" } : Jvm.MethodName)) ∈ AW := AW_t 690 (by decide +kernel) rfl
set_option maxRecDepth 100000 in
theorem k691 : (Jvm.Cond.code ({ cls := "DemandTermsModel", name := "partSet", desc := "(II)J" } : Jvm.MethodName) prog_8_method_40_code (3 : Nat) (Option.some Jvm.ClassFile.FieldType.long)) ∈ AW := AW_t 691 rfl rfl
theorem k692 : (Jvm.Cond.methodLink "DemandTermsLaw" (84 : Nat) ({ cls := "DemandTermsModel", name := "choose", desc := "(I)Z" } : Jvm.MethodName)) ∈ AW := AW_t 692 (by decide +kernel) rfl
theorem k693 : (Jvm.Cond.instanceMethod ({ cls := "DemandTermsModel", name := "choose", desc := "(I)Z" } : Jvm.MethodName)) ∈ AW := AW_t 693 (by decide +kernel) rfl
theorem k694 : (Jvm.Cond.selects "DemandTermsModel" ({ cls := "DemandTermsModel", name := "choose", desc := "(I)Z" } : Jvm.MethodName) ({ cls := "DemandTermsModel", name := "choose", desc := "(I)Z" } : Jvm.MethodName)) ∈ AW := AW_t 694 (by decide +kernel) rfl
set_option maxRecDepth 100000 in
theorem k695 : (Jvm.Cond.code ({ cls := "DemandTermsModel", name := "choose", desc := "(I)Z" } : Jvm.MethodName) prog_8_method_41_code (2 : Nat) (Option.some Jvm.ClassFile.FieldType.boolean)) ∈ AW := AW_t 695 rfl rfl
theorem k696 : (Jvm.Cond.methodLink "DemandTermsLaw" (88 : Nat) ({ cls := "DemandTermsModel", name := "forget", desc := "()V" } : Jvm.MethodName)) ∈ AW := AW_t 696 (by decide +kernel) rfl
theorem k697 : (Jvm.Cond.instanceMethod ({ cls := "DemandTermsModel", name := "forget", desc := "()V" } : Jvm.MethodName)) ∈ AW := AW_t 697 (by decide +kernel) rfl
theorem k698 : (Jvm.Cond.selects "DemandTermsModel" ({ cls := "DemandTermsModel", name := "forget", desc := "()V" } : Jvm.MethodName) ({ cls := "DemandTermsModel", name := "forget", desc := "()V" } : Jvm.MethodName)) ∈ AW := AW_t 698 (by decide +kernel) rfl
set_option maxRecDepth 100000 in
theorem k699 : (Jvm.Cond.code ({ cls := "DemandTermsModel", name := "forget", desc := "()V" } : Jvm.MethodName) prog_8_method_42_code (2 : Nat) (Option.none : Option Jvm.ClassFile.FieldType)) ∈ AW := AW_t 699 rfl rfl
theorem k700 : (Jvm.Cond.methodLink "DemandTermsLaw" (92 : Nat) ({ cls := "DemandTermsModel", name := "state", desc := "(I)I" } : Jvm.MethodName)) ∈ AW := AW_t 700 (by decide +kernel) rfl
theorem k701 : (Jvm.Cond.instanceMethod ({ cls := "DemandTermsModel", name := "state", desc := "(I)I" } : Jvm.MethodName)) ∈ AW := AW_t 701 (by decide +kernel) rfl
theorem k702 : (Jvm.Cond.selects "DemandTermsModel" ({ cls := "DemandTermsModel", name := "state", desc := "(I)I" } : Jvm.MethodName) ({ cls := "DemandTermsModel", name := "state", desc := "(I)I" } : Jvm.MethodName)) ∈ AW := AW_t 702 (by decide +kernel) rfl
set_option maxRecDepth 100000 in
theorem k703 : (Jvm.Cond.code ({ cls := "DemandTermsModel", name := "state", desc := "(I)I" } : Jvm.MethodName) prog_8_method_47_code (2 : Nat) (Option.some Jvm.ClassFile.FieldType.int)) ∈ AW := AW_t 703 rfl rfl
theorem k704 : (Jvm.Cond.methodLink "DemandTermsModel" (167 : Nat) ({ cls := "DemandTermsModel", name := "look", desc := "(I)I" } : Jvm.MethodName)) ∈ AW := AW_t 704 (by decide +kernel) rfl
theorem k706 : (Jvm.Cond.instanceMethod ({ cls := "DemandTermsModel", name := "look", desc := "(I)I" } : Jvm.MethodName)) ∈ AW := AW_t 706 (by decide +kernel) rfl
set_option maxRecDepth 100000 in
theorem k707 : (Jvm.Cond.code ({ cls := "DemandTermsModel", name := "look", desc := "(I)I" } : Jvm.MethodName) prog_8_method_45_code (3 : Nat) (Option.some Jvm.ClassFile.FieldType.int)) ∈ AW := AW_t 707 rfl rfl
theorem k708 : (Jvm.Cond.methodLink "DemandTermsModel" (164 : Nat) ({ cls := "DemandTermsModel", name := "counted", desc := "(II)I" } : Jvm.MethodName)) ∈ AW := AW_t 708 (by decide +kernel) rfl
theorem k710 : (Jvm.Cond.instanceMethod ({ cls := "DemandTermsModel", name := "counted", desc := "(II)I" } : Jvm.MethodName)) ∈ AW := AW_t 710 (by decide +kernel) rfl
set_option maxRecDepth 100000 in
theorem k711 : (Jvm.Cond.code ({ cls := "DemandTermsModel", name := "counted", desc := "(II)I" } : Jvm.MethodName) prog_8_method_44_code (5 : Nat) (Option.some Jvm.ClassFile.FieldType.int)) ∈ AW := AW_t 711 rfl rfl
theorem k712 : (Jvm.Cond.methodLink "DemandTermsModel" (160 : Nat) ({ cls := "DemandTermsModel", name := "stateOf", desc := "(I)I" } : Jvm.MethodName)) ∈ AW := AW_t 712 (by decide +kernel) rfl
theorem k714 : (Jvm.Cond.instanceMethod ({ cls := "DemandTermsModel", name := "stateOf", desc := "(I)I" } : Jvm.MethodName)) ∈ AW := AW_t 714 (by decide +kernel) rfl
set_option maxRecDepth 100000 in
theorem k715 : (Jvm.Cond.code ({ cls := "DemandTermsModel", name := "stateOf", desc := "(I)I" } : Jvm.MethodName) prog_8_method_43_code (2 : Nat) (Option.some Jvm.ClassFile.FieldType.int)) ∈ AW := AW_t 715 rfl rfl
theorem k716 : (Jvm.Cond.methodLink "DemandTermsLaw" (96 : Nat) ({ cls := "DemandTermsModel", name := "forced", desc := "(I)I" } : Jvm.MethodName)) ∈ AW := AW_t 716 (by decide +kernel) rfl
theorem k717 : (Jvm.Cond.instanceMethod ({ cls := "DemandTermsModel", name := "forced", desc := "(I)I" } : Jvm.MethodName)) ∈ AW := AW_t 717 (by decide +kernel) rfl
theorem k718 : (Jvm.Cond.selects "DemandTermsModel" ({ cls := "DemandTermsModel", name := "forced", desc := "(I)I" } : Jvm.MethodName) ({ cls := "DemandTermsModel", name := "forced", desc := "(I)I" } : Jvm.MethodName)) ∈ AW := AW_t 718 (by decide +kernel) rfl
set_option maxRecDepth 100000 in
theorem k719 : (Jvm.Cond.code ({ cls := "DemandTermsModel", name := "forced", desc := "(I)I" } : Jvm.MethodName) prog_8_method_48_code (2 : Nat) (Option.some Jvm.ClassFile.FieldType.int)) ∈ AW := AW_t 719 rfl rfl
theorem k720 : (Jvm.Cond.methodLink "DemandTermsModel" (170 : Nat) ({ cls := "DemandTermsModel", name := "openPart", desc := "(I)I" } : Jvm.MethodName)) ∈ AW := AW_t 720 (by decide +kernel) rfl
theorem k722 : (Jvm.Cond.instanceMethod ({ cls := "DemandTermsModel", name := "openPart", desc := "(I)I" } : Jvm.MethodName)) ∈ AW := AW_t 722 (by decide +kernel) rfl
set_option maxRecDepth 100000 in
theorem k723 : (Jvm.Cond.code ({ cls := "DemandTermsModel", name := "openPart", desc := "(I)I" } : Jvm.MethodName) prog_8_method_46_code (4 : Nat) (Option.some Jvm.ClassFile.FieldType.int)) ∈ AW := AW_t 723 rfl rfl
theorem k724 : (Jvm.Cond.methodLink "DemandTermsLaw" (100 : Nat) ({ cls := "DemandTermsModel", name := "spread", desc := "()I" } : Jvm.MethodName)) ∈ AW := AW_t 724 (by decide +kernel) rfl
theorem k725 : (Jvm.Cond.instanceMethod ({ cls := "DemandTermsModel", name := "spread", desc := "()I" } : Jvm.MethodName)) ∈ AW := AW_t 725 (by decide +kernel) rfl
theorem k726 : (Jvm.Cond.selects "DemandTermsModel" ({ cls := "DemandTermsModel", name := "spread", desc := "()I" } : Jvm.MethodName) ({ cls := "DemandTermsModel", name := "spread", desc := "()I" } : Jvm.MethodName)) ∈ AW := AW_t 726 (by decide +kernel) rfl
set_option maxRecDepth 100000 in
theorem k727 : (Jvm.Cond.code ({ cls := "DemandTermsModel", name := "spread", desc := "()I" } : Jvm.MethodName) prog_8_method_50_code (7 : Nat) (Option.some Jvm.ClassFile.FieldType.int)) ∈ AW := AW_t 727 rfl rfl
theorem k728 : (Jvm.Cond.methodLink "DemandTermsModel" (173 : Nat) ({ cls := "DemandTermsModel", name := "firstKept", desc := "()I" } : Jvm.MethodName)) ∈ AW := AW_t 728 (by decide +kernel) rfl
theorem k730 : (Jvm.Cond.instanceMethod ({ cls := "DemandTermsModel", name := "firstKept", desc := "()I" } : Jvm.MethodName)) ∈ AW := AW_t 730 (by decide +kernel) rfl
set_option maxRecDepth 100000 in
theorem k731 : (Jvm.Cond.code ({ cls := "DemandTermsModel", name := "firstKept", desc := "()I" } : Jvm.MethodName) prog_8_method_49_code (2 : Nat) (Option.some Jvm.ClassFile.FieldType.int)) ∈ AW := AW_t 731 rfl rfl
theorem k732 : (Jvm.Cond.methodLink "DemandTermsLaw" (104 : Nat) ({ cls := "DemandTermsModel", name := "chosen", desc := "(II)I" } : Jvm.MethodName)) ∈ AW := AW_t 732 (by decide +kernel) rfl
theorem k733 : (Jvm.Cond.instanceMethod ({ cls := "DemandTermsModel", name := "chosen", desc := "(II)I" } : Jvm.MethodName)) ∈ AW := AW_t 733 (by decide +kernel) rfl
theorem k734 : (Jvm.Cond.selects "DemandTermsModel" ({ cls := "DemandTermsModel", name := "chosen", desc := "(II)I" } : Jvm.MethodName) ({ cls := "DemandTermsModel", name := "chosen", desc := "(II)I" } : Jvm.MethodName)) ∈ AW := AW_t 734 (by decide +kernel) rfl
set_option maxRecDepth 100000 in
theorem k735 : (Jvm.Cond.code ({ cls := "DemandTermsModel", name := "chosen", desc := "(II)I" } : Jvm.MethodName) prog_8_method_51_code (3 : Nat) (Option.some Jvm.ClassFile.FieldType.int)) ∈ AW := AW_t 735 rfl rfl
theorem k736 : (Jvm.Cond.methodLink "DemandTermsLaw" (108 : Nat) ({ cls := "DemandTermsModel", name := "chosenSet", desc := "(I)J" } : Jvm.MethodName)) ∈ AW := AW_t 736 (by decide +kernel) rfl
theorem k737 : (Jvm.Cond.instanceMethod ({ cls := "DemandTermsModel", name := "chosenSet", desc := "(I)J" } : Jvm.MethodName)) ∈ AW := AW_t 737 (by decide +kernel) rfl
theorem k738 : (Jvm.Cond.selects "DemandTermsModel" ({ cls := "DemandTermsModel", name := "chosenSet", desc := "(I)J" } : Jvm.MethodName) ({ cls := "DemandTermsModel", name := "chosenSet", desc := "(I)J" } : Jvm.MethodName)) ∈ AW := AW_t 738 (by decide +kernel) rfl
set_option maxRecDepth 100000 in
theorem k739 : (Jvm.Cond.code ({ cls := "DemandTermsModel", name := "chosenSet", desc := "(I)J" } : Jvm.MethodName) prog_8_method_52_code (2 : Nat) (Option.some Jvm.ClassFile.FieldType.long)) ∈ AW := AW_t 739 rfl rfl
theorem k740 : (Jvm.Cond.methodLink "DemandTermsLaw" (112 : Nat) ({ cls := "DemandTermsModel", name := "print", desc := "(I)I" } : Jvm.MethodName)) ∈ AW := AW_t 740 (by decide +kernel) rfl
theorem k741 : (Jvm.Cond.instanceMethod ({ cls := "DemandTermsModel", name := "print", desc := "(I)I" } : Jvm.MethodName)) ∈ AW := AW_t 741 (by decide +kernel) rfl
theorem k742 : (Jvm.Cond.selects "DemandTermsModel" ({ cls := "DemandTermsModel", name := "print", desc := "(I)I" } : Jvm.MethodName) ({ cls := "DemandTermsModel", name := "print", desc := "(I)I" } : Jvm.MethodName)) ∈ AW := AW_t 742 (by decide +kernel) rfl
set_option maxRecDepth 100000 in
theorem k743 : (Jvm.Cond.code ({ cls := "DemandTermsModel", name := "print", desc := "(I)I" } : Jvm.MethodName) prog_8_method_56_code (3 : Nat) (Option.some Jvm.ClassFile.FieldType.int)) ∈ AW := AW_t 743 rfl rfl
theorem k744 : (Jvm.Cond.methodLink "DemandTermsModel" (180 : Nat) ({ cls := "DemandTermsModel", name := "put", desc := "(I)V" } : Jvm.MethodName)) ∈ AW := AW_t 744 (by decide +kernel) rfl
theorem k746 : (Jvm.Cond.instanceMethod ({ cls := "DemandTermsModel", name := "put", desc := "(I)V" } : Jvm.MethodName)) ∈ AW := AW_t 746 (by decide +kernel) rfl
set_option maxRecDepth 100000 in
theorem k747 : (Jvm.Cond.code ({ cls := "DemandTermsModel", name := "put", desc := "(I)V" } : Jvm.MethodName) prog_8_method_53_code (2 : Nat) (Option.none : Option Jvm.ClassFile.FieldType)) ∈ AW := AW_t 747 rfl rfl
theorem k748 : (Jvm.Cond.methodLink "DemandTermsModel" (186 : Nat) ({ cls := "DemandTermsModel", name := "putTerm", desc := "(I)V" } : Jvm.MethodName)) ∈ AW := AW_t 748 (by decide +kernel) rfl
theorem k750 : (Jvm.Cond.instanceMethod ({ cls := "DemandTermsModel", name := "putTerm", desc := "(I)V" } : Jvm.MethodName)) ∈ AW := AW_t 750 (by decide +kernel) rfl
set_option maxRecDepth 100000 in
theorem k751 : (Jvm.Cond.code ({ cls := "DemandTermsModel", name := "putTerm", desc := "(I)V" } : Jvm.MethodName) prog_8_method_55_code (5 : Nat) (Option.none : Option Jvm.ClassFile.FieldType)) ∈ AW := AW_t 751 rfl rfl
theorem k752 : (Jvm.Cond.methodLink "DemandTermsModel" (183 : Nat) ({ cls := "DemandTermsModel", name := "putNumber", desc := "(I)V" } : Jvm.MethodName)) ∈ AW := AW_t 752 (by decide +kernel) rfl
theorem k754 : (Jvm.Cond.instanceMethod ({ cls := "DemandTermsModel", name := "putNumber", desc := "(I)V" } : Jvm.MethodName)) ∈ AW := AW_t 754 (by decide +kernel) rfl
set_option maxRecDepth 100000 in
theorem k755 : (Jvm.Cond.code ({ cls := "DemandTermsModel", name := "putNumber", desc := "(I)V" } : Jvm.MethodName) prog_8_method_54_code (2 : Nat) (Option.none : Option Jvm.ClassFile.FieldType)) ∈ AW := AW_t 755 rfl rfl
theorem k756 : (Jvm.Cond.methodLink "DemandTermsLaw" (116 : Nat) ({ cls := "DemandTermsModel", name := "at", desc := "(I)I" } : Jvm.MethodName)) ∈ AW := AW_t 756 (by decide +kernel) rfl
theorem k757 : (Jvm.Cond.instanceMethod ({ cls := "DemandTermsModel", name := "at", desc := "(I)I" } : Jvm.MethodName)) ∈ AW := AW_t 757 (by decide +kernel) rfl
theorem k758 : (Jvm.Cond.selects "DemandTermsModel" ({ cls := "DemandTermsModel", name := "at", desc := "(I)I" } : Jvm.MethodName) ({ cls := "DemandTermsModel", name := "at", desc := "(I)I" } : Jvm.MethodName)) ∈ AW := AW_t 758 (by decide +kernel) rfl
set_option maxRecDepth 100000 in
theorem k759 : (Jvm.Cond.code ({ cls := "DemandTermsModel", name := "at", desc := "(I)I" } : Jvm.MethodName) prog_8_method_57_code (2 : Nat) (Option.some Jvm.ClassFile.FieldType.int)) ∈ AW := AW_t 759 rfl rfl
theorem k760 : (Jvm.Cond.constantLong "DemandTermsLaw" (18 : Nat) (4294967295 : Int64)) ∈ AW := AW_t 760 (by decide +kernel) rfl
theorem ks0 : Cond.selects "DemandTerms" (⟨"DemandTerms", "describe", "(IJI)I"⟩ : MethodName) (⟨"DemandTerms", "describe", "(IJI)I"⟩ : MethodName) ∈ AW := AW_s 0 (by decide +kernel) rfl
theorem ks1 : Cond.selects "DemandTerms" (⟨"DemandTerms", "isDerived", "(I)Z"⟩ : MethodName) (⟨"DemandTerms", "isDerived", "(I)Z"⟩ : MethodName) ∈ AW := AW_s 1 (by decide +kernel) rfl
theorem ks2 : Cond.selects "DemandTerms" (⟨"DemandTerms", "deriveFrom", "(I)Z"⟩ : MethodName) (⟨"DemandTerms", "deriveFrom", "(I)Z"⟩ : MethodName) ∈ AW := AW_s 2 (by decide +kernel) rfl
theorem ks3 : Cond.selects "DemandTerms" (⟨"DemandTerms", "putPart", "(IIJ)V"⟩ : MethodName) (⟨"DemandTerms", "putPart", "(IIJ)V"⟩ : MethodName) ∈ AW := AW_s 3 (by decide +kernel) rfl
theorem ks4 : Cond.selects "DemandTerms" (⟨"DemandTerms", "placesIn", "(II)J"⟩ : MethodName) (⟨"DemandTerms", "placesIn", "(II)J"⟩ : MethodName) ∈ AW := AW_s 4 (by decide +kernel) rfl
theorem ks5 : Cond.selects "DemandTerms" (⟨"DemandTerms", "narrowChoice", "(IJ)V"⟩ : MethodName) (⟨"DemandTerms", "narrowChoice", "(IJ)V"⟩ : MethodName) ∈ AW := AW_s 5 (by decide +kernel) rfl
theorem ks6 : Cond.selects "DemandTerms" (⟨"DemandTerms", "stateOf", "(I)I"⟩ : MethodName) (⟨"DemandTerms", "stateOf", "(I)I"⟩ : MethodName) ∈ AW := AW_s 6 (by decide +kernel) rfl
theorem ks7 : Cond.selects "DemandTerms" (⟨"DemandTerms", "relationToChoice", "(II)I"⟩ : MethodName) (⟨"DemandTerms", "relationToChoice", "(II)I"⟩ : MethodName) ∈ AW := AW_s 7 (by decide +kernel) rfl
theorem ks8 : Cond.selects "DemandTerms" (⟨"DemandTerms", "openName", "(I)I"⟩ : MethodName) (⟨"DemandTerms", "openName", "(I)I"⟩ : MethodName) ∈ AW := AW_s 8 (by decide +kernel) rfl
theorem ks9 : Cond.selects "DemandTerms" (⟨"DemandTerms", "firstKept", "()I"⟩ : MethodName) (⟨"DemandTerms", "firstKept", "()I"⟩ : MethodName) ∈ AW := AW_s 9 (by decide +kernel) rfl
theorem ks10 : Cond.selects "DemandTerms" (⟨"DemandTerms", "force", "(I)V"⟩ : MethodName) (⟨"DemandTerms", "force", "(I)V"⟩ : MethodName) ∈ AW := AW_s 10 (by decide +kernel) rfl
theorem ks11 : Cond.selects "DemandTerms" (⟨"DemandTerms", "printPart", "(IJ)V"⟩ : MethodName) (⟨"DemandTerms", "printPart", "(IJ)V"⟩ : MethodName) ∈ AW := AW_s 11 (by decide +kernel) rfl
theorem ks12 : Cond.selects "DemandTerms$Page" (⟨"DemandTerms$Page", "putNumber", "(I)V"⟩ : MethodName) (⟨"DemandTerms$Page", "putNumber", "(I)V"⟩ : MethodName) ∈ AW := AW_s 12 (by decide +kernel) rfl
theorem ks13 : Cond.selects "DemandTermsModel" (⟨"DemandTermsModel", "full", "(I)V"⟩ : MethodName) (⟨"DemandTermsModel", "full", "(I)V"⟩ : MethodName) ∈ AW := AW_s 13 (by decide +kernel) rfl
theorem ks14 : Cond.selects "DemandTermsModel" (⟨"DemandTermsModel", "tell", "(IIZ)V"⟩ : MethodName) (⟨"DemandTermsModel", "tell", "(IIZ)V"⟩ : MethodName) ∈ AW := AW_s 14 (by decide +kernel) rfl
theorem ks15 : Cond.selects "DemandTermsModel" (⟨"DemandTermsModel", "isName", "(I)Z"⟩ : MethodName) (⟨"DemandTermsModel", "isName", "(I)Z"⟩ : MethodName) ∈ AW := AW_s 15 (by decide +kernel) rfl
theorem ks16 : Cond.selects "DemandTermsModel" (⟨"DemandTermsModel", "make", "(IIJZ)V"⟩ : MethodName) (⟨"DemandTermsModel", "make", "(IIJZ)V"⟩ : MethodName) ∈ AW := AW_s 16 (by decide +kernel) rfl
theorem ks17 : Cond.selects "DemandTermsModel" (⟨"DemandTermsModel", "isTerm", "(I)Z"⟩ : MethodName) (⟨"DemandTermsModel", "isTerm", "(I)Z"⟩ : MethodName) ∈ AW := AW_s 17 (by decide +kernel) rfl
theorem ks18 : Cond.selects "DemandTermsModel" (⟨"DemandTermsModel", "join", "(IIIZ)V"⟩ : MethodName) (⟨"DemandTermsModel", "join", "(IIIZ)V"⟩ : MethodName) ∈ AW := AW_s 18 (by decide +kernel) rfl
theorem ks19 : Cond.selects "DemandTermsModel" (⟨"DemandTermsModel", "isSaid", "(II)Z"⟩ : MethodName) (⟨"DemandTermsModel", "isSaid", "(II)Z"⟩ : MethodName) ∈ AW := AW_s 19 (by decide +kernel) rfl
theorem ks20 : Cond.selects "DemandTermsModel" (⟨"DemandTermsModel", "relation", "(II)I"⟩ : MethodName) (⟨"DemandTermsModel", "relation", "(II)I"⟩ : MethodName) ∈ AW := AW_s 20 (by decide +kernel) rfl
theorem ks21 : Cond.selects "DemandTermsModel" (⟨"DemandTermsModel", "aboutOf", "(II)I"⟩ : MethodName) (⟨"DemandTermsModel", "aboutOf", "(II)I"⟩ : MethodName) ∈ AW := AW_s 21 (by decide +kernel) rfl
theorem ks22 : Cond.selects "DemandTermsModel" (⟨"DemandTermsModel", "isListed", "(II)Z"⟩ : MethodName) (⟨"DemandTermsModel", "isListed", "(II)Z"⟩ : MethodName) ∈ AW := AW_s 22 (by decide +kernel) rfl
theorem ks23 : Cond.selects "DemandTermsModel" (⟨"DemandTermsModel", "isWanted", "(I)Z"⟩ : MethodName) (⟨"DemandTermsModel", "isWanted", "(I)Z"⟩ : MethodName) ∈ AW := AW_s 23 (by decide +kernel) rfl
theorem ks24 : Cond.selects "DemandTermsModel" (⟨"DemandTermsModel", "setOf", "(I)J"⟩ : MethodName) (⟨"DemandTermsModel", "setOf", "(I)J"⟩ : MethodName) ∈ AW := AW_s 24 (by decide +kernel) rfl
theorem ks25 : Cond.selects "DemandTermsModel" (⟨"DemandTermsModel", "there", "(IJ)J"⟩ : MethodName) (⟨"DemandTermsModel", "there", "(IJ)J"⟩ : MethodName) ∈ AW := AW_s 25 (by decide +kernel) rfl
theorem ks26 : Cond.selects "DemandTermsModel" (⟨"DemandTermsModel", "isDerived", "(II)Z"⟩ : MethodName) (⟨"DemandTermsModel", "isDerived", "(II)Z"⟩ : MethodName) ∈ AW := AW_s 26 (by decide +kernel) rfl
theorem ks27 : Cond.selects "DemandTermsModel" (⟨"DemandTermsModel", "deriveRow", "(I)V"⟩ : MethodName) (⟨"DemandTermsModel", "deriveRow", "(I)V"⟩ : MethodName) ∈ AW := AW_s 27 (by decide +kernel) rfl
theorem ks28 : Cond.selects "DemandTermsModel" (⟨"DemandTermsModel", "begin", "()V"⟩ : MethodName) (⟨"DemandTermsModel", "begin", "()V"⟩ : MethodName) ∈ AW := AW_s 28 (by decide +kernel) rfl
theorem ks29 : Cond.selects "DemandTermsModel" (⟨"DemandTermsModel", "has", "(II)Z"⟩ : MethodName) (⟨"DemandTermsModel", "has", "(II)Z"⟩ : MethodName) ∈ AW := AW_s 29 (by decide +kernel) rfl
theorem ks30 : Cond.selects "DemandTermsModel" (⟨"DemandTermsModel", "isAlike", "(III)Z"⟩ : MethodName) (⟨"DemandTermsModel", "isAlike", "(III)Z"⟩ : MethodName) ∈ AW := AW_s 30 (by decide +kernel) rfl
theorem ks31 : Cond.selects "DemandTermsModel" (⟨"DemandTermsModel", "addPart", "(I)V"⟩ : MethodName) (⟨"DemandTermsModel", "addPart", "(I)V"⟩ : MethodName) ∈ AW := AW_s 31 (by decide +kernel) rfl
theorem ks32 : Cond.selects "DemandTermsModel" (⟨"DemandTermsModel", "isFull", "(I)Z"⟩ : MethodName) (⟨"DemandTermsModel", "isFull", "(I)Z"⟩ : MethodName) ∈ AW := AW_s 32 (by decide +kernel) rfl
theorem ks33 : Cond.selects "DemandTermsModel" (⟨"DemandTermsModel", "copy", "(II)V"⟩ : MethodName) (⟨"DemandTermsModel", "copy", "(II)V"⟩ : MethodName) ∈ AW := AW_s 33 (by decide +kernel) rfl
theorem ks34 : Cond.selects "DemandTermsModel" (⟨"DemandTermsModel", "isBar", "(I)Z"⟩ : MethodName) (⟨"DemandTermsModel", "isBar", "(I)Z"⟩ : MethodName) ∈ AW := AW_s 34 (by decide +kernel) rfl
theorem ks35 : Cond.selects "DemandTermsModel" (⟨"DemandTermsModel", "partOf", "(II)I"⟩ : MethodName) (⟨"DemandTermsModel", "partOf", "(II)I"⟩ : MethodName) ∈ AW := AW_s 35 (by decide +kernel) rfl
theorem ks36 : Cond.selects "DemandTermsModel" (⟨"DemandTermsModel", "isPart", "(II)Z"⟩ : MethodName) (⟨"DemandTermsModel", "isPart", "(II)Z"⟩ : MethodName) ∈ AW := AW_s 36 (by decide +kernel) rfl
theorem ks37 : Cond.selects "DemandTermsModel" (⟨"DemandTermsModel", "look", "(I)I"⟩ : MethodName) (⟨"DemandTermsModel", "look", "(I)I"⟩ : MethodName) ∈ AW := AW_s 37 (by decide +kernel) rfl
theorem ks38 : Cond.selects "DemandTermsModel" (⟨"DemandTermsModel", "counted", "(II)I"⟩ : MethodName) (⟨"DemandTermsModel", "counted", "(II)I"⟩ : MethodName) ∈ AW := AW_s 38 (by decide +kernel) rfl
theorem ks39 : Cond.selects "DemandTermsModel" (⟨"DemandTermsModel", "stateOf", "(I)I"⟩ : MethodName) (⟨"DemandTermsModel", "stateOf", "(I)I"⟩ : MethodName) ∈ AW := AW_s 39 (by decide +kernel) rfl
theorem ks40 : Cond.selects "DemandTermsModel" (⟨"DemandTermsModel", "openPart", "(I)I"⟩ : MethodName) (⟨"DemandTermsModel", "openPart", "(I)I"⟩ : MethodName) ∈ AW := AW_s 40 (by decide +kernel) rfl
theorem ks41 : Cond.selects "DemandTermsModel" (⟨"DemandTermsModel", "firstKept", "()I"⟩ : MethodName) (⟨"DemandTermsModel", "firstKept", "()I"⟩ : MethodName) ∈ AW := AW_s 41 (by decide +kernel) rfl
theorem ks42 : Cond.selects "DemandTermsModel" (⟨"DemandTermsModel", "put", "(I)V"⟩ : MethodName) (⟨"DemandTermsModel", "put", "(I)V"⟩ : MethodName) ∈ AW := AW_s 42 (by decide +kernel) rfl
theorem ks43 : Cond.selects "DemandTermsModel" (⟨"DemandTermsModel", "putTerm", "(I)V"⟩ : MethodName) (⟨"DemandTermsModel", "putTerm", "(I)V"⟩ : MethodName) ∈ AW := AW_s 43 (by decide +kernel) rfl
theorem ks44 : Cond.selects "DemandTermsModel" (⟨"DemandTermsModel", "putNumber", "(I)V"⟩ : MethodName) (⟨"DemandTermsModel", "putNumber", "(I)V"⟩ : MethodName) ∈ AW := AW_s 44 (by decide +kernel) rfl
