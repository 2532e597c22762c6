section
-- ===== PART A: goes FIRST, ahead of the names: the tables' words, and 'selects' of the private methods out of them =====
/-- a private method of a class that the tables say can be made, by its rows of tables_1 -/
def lw_okq (q : MethodName × Nat) : Prop := (q.1.cls ≠ "java/lang/invoke/MethodHandle" ∧ q.1.cls ≠ "java/lang/invoke/VarHandle") ∧ Cond.instantiable q.1.cls q.2 ∈ tables_1 ∧ Cond.privateMethod q.1 ∈ tables_1 ∧ Cond.instanceMethod q.1 ∈ tables_1
theorem lw_p0 : lw_okq (⟨"DemandTerms", "describe", "(IJI)I"⟩, 6) := ⟨⟨by decide +kernel, by decide +kernel⟩, List.mem_of_getElem? (i := 11) (by decide +kernel), List.mem_of_getElem? (i := 191) (by decide +kernel), List.mem_of_getElem? (i := 192) (by decide +kernel)⟩
theorem lw_p1 : lw_okq (⟨"DemandTerms", "isDerived", "(I)Z"⟩, 6) := ⟨⟨by decide +kernel, by decide +kernel⟩, List.mem_of_getElem? (i := 11) (by decide +kernel), List.mem_of_getElem? (i := 249) (by decide +kernel), List.mem_of_getElem? (i := 250) (by decide +kernel)⟩
theorem lw_p2 : lw_okq (⟨"DemandTerms", "deriveFrom", "(I)Z"⟩, 6) := ⟨⟨by decide +kernel, by decide +kernel⟩, List.mem_of_getElem? (i := 11) (by decide +kernel), List.mem_of_getElem? (i := 274) (by decide +kernel), List.mem_of_getElem? (i := 275) (by decide +kernel)⟩
theorem lw_p3 : lw_okq (⟨"DemandTerms", "putPart", "(IIJ)V"⟩, 6) := ⟨⟨by decide +kernel, by decide +kernel⟩, List.mem_of_getElem? (i := 11) (by decide +kernel), List.mem_of_getElem? (i := 294) (by decide +kernel), List.mem_of_getElem? (i := 295) (by decide +kernel)⟩
theorem lw_p4 : lw_okq (⟨"DemandTerms", "placesIn", "(II)J"⟩, 6) := ⟨⟨by decide +kernel, by decide +kernel⟩, List.mem_of_getElem? (i := 11) (by decide +kernel), List.mem_of_getElem? (i := 330) (by decide +kernel), List.mem_of_getElem? (i := 331) (by decide +kernel)⟩
theorem lw_p5 : lw_okq (⟨"DemandTerms", "narrowChoice", "(IJ)V"⟩, 6) := ⟨⟨by decide +kernel, by decide +kernel⟩, List.mem_of_getElem? (i := 11) (by decide +kernel), List.mem_of_getElem? (i := 378) (by decide +kernel), List.mem_of_getElem? (i := 379) (by decide +kernel)⟩
theorem lw_p6 : lw_okq (⟨"DemandTerms", "stateOf", "(I)I"⟩, 6) := ⟨⟨by decide +kernel, by decide +kernel⟩, List.mem_of_getElem? (i := 11) (by decide +kernel), List.mem_of_getElem? (i := 390) (by decide +kernel), List.mem_of_getElem? (i := 391) (by decide +kernel)⟩
theorem lw_p7 : lw_okq (⟨"DemandTerms", "relationToChoice", "(II)I"⟩, 6) := ⟨⟨by decide +kernel, by decide +kernel⟩, List.mem_of_getElem? (i := 11) (by decide +kernel), List.mem_of_getElem? (i := 394) (by decide +kernel), List.mem_of_getElem? (i := 395) (by decide +kernel)⟩
theorem lw_p8 : lw_okq (⟨"DemandTerms", "openName", "(I)I"⟩, 6) := ⟨⟨by decide +kernel, by decide +kernel⟩, List.mem_of_getElem? (i := 11) (by decide +kernel), List.mem_of_getElem? (i := 402) (by decide +kernel), List.mem_of_getElem? (i := 403) (by decide +kernel)⟩
theorem lw_p9 : lw_okq (⟨"DemandTerms", "firstKept", "()I"⟩, 6) := ⟨⟨by decide +kernel, by decide +kernel⟩, List.mem_of_getElem? (i := 11) (by decide +kernel), List.mem_of_getElem? (i := 411) (by decide +kernel), List.mem_of_getElem? (i := 412) (by decide +kernel)⟩
theorem lw_p10 : lw_okq (⟨"DemandTerms", "force", "(I)V"⟩, 6) := ⟨⟨by decide +kernel, by decide +kernel⟩, List.mem_of_getElem? (i := 11) (by decide +kernel), List.mem_of_getElem? (i := 415) (by decide +kernel), List.mem_of_getElem? (i := 416) (by decide +kernel)⟩
theorem lw_p11 : lw_okq (⟨"DemandTerms", "printPart", "(IJ)V"⟩, 6) := ⟨⟨by decide +kernel, by decide +kernel⟩, List.mem_of_getElem? (i := 11) (by decide +kernel), List.mem_of_getElem? (i := 435) (by decide +kernel), List.mem_of_getElem? (i := 436) (by decide +kernel)⟩
theorem lw_p12 : lw_okq (⟨"DemandTerms$Page", "putNumber", "(I)V"⟩, 2) := ⟨⟨by decide +kernel, by decide +kernel⟩, List.mem_of_getElem? (i := 97) (by decide +kernel), List.mem_of_getElem? (i := 454) (by decide +kernel), List.mem_of_getElem? (i := 455) (by decide +kernel)⟩
theorem lw_p13 : lw_okq (⟨"DemandTermsModel", "full", "(I)V"⟩, 22) := ⟨⟨by decide +kernel, by decide +kernel⟩, List.mem_of_getElem? (i := 466) (by decide +kernel), List.mem_of_getElem? (i := 545) (by decide +kernel), List.mem_of_getElem? (i := 546) (by decide +kernel)⟩
theorem lw_p14 : lw_okq (⟨"DemandTermsModel", "tell", "(IIZ)V"⟩, 22) := ⟨⟨by decide +kernel, by decide +kernel⟩, List.mem_of_getElem? (i := 466) (by decide +kernel), List.mem_of_getElem? (i := 549) (by decide +kernel), List.mem_of_getElem? (i := 550) (by decide +kernel)⟩
theorem lw_p15 : lw_okq (⟨"DemandTermsModel", "isName", "(I)Z"⟩, 22) := ⟨⟨by decide +kernel, by decide +kernel⟩, List.mem_of_getElem? (i := 466) (by decide +kernel), List.mem_of_getElem? (i := 557) (by decide +kernel), List.mem_of_getElem? (i := 558) (by decide +kernel)⟩
def lw_privs_1 : List (MethodName × Nat) := [(⟨"DemandTerms", "describe", "(IJI)I"⟩, 6), (⟨"DemandTerms", "isDerived", "(I)Z"⟩, 6), (⟨"DemandTerms", "deriveFrom", "(I)Z"⟩, 6), (⟨"DemandTerms", "putPart", "(IIJ)V"⟩, 6), (⟨"DemandTerms", "placesIn", "(II)J"⟩, 6), (⟨"DemandTerms", "narrowChoice", "(IJ)V"⟩, 6), (⟨"DemandTerms", "stateOf", "(I)I"⟩, 6), (⟨"DemandTerms", "relationToChoice", "(II)I"⟩, 6), (⟨"DemandTerms", "openName", "(I)I"⟩, 6), (⟨"DemandTerms", "firstKept", "()I"⟩, 6), (⟨"DemandTerms", "force", "(I)V"⟩, 6), (⟨"DemandTerms", "printPart", "(IJ)V"⟩, 6), (⟨"DemandTerms$Page", "putNumber", "(I)V"⟩, 2), (⟨"DemandTermsModel", "full", "(I)V"⟩, 22), (⟨"DemandTermsModel", "tell", "(IIZ)V"⟩, 22), (⟨"DemandTermsModel", "isName", "(I)Z"⟩, 22)]
theorem lw_r1 : ∀ q ∈ lw_privs_1, lw_okq q := List.forall_mem_cons.mpr ⟨lw_p0, List.forall_mem_cons.mpr ⟨lw_p1, List.forall_mem_cons.mpr ⟨lw_p2, List.forall_mem_cons.mpr ⟨lw_p3, List.forall_mem_cons.mpr ⟨lw_p4, List.forall_mem_cons.mpr ⟨lw_p5, List.forall_mem_cons.mpr ⟨lw_p6, List.forall_mem_cons.mpr ⟨lw_p7, List.forall_mem_cons.mpr ⟨lw_p8, List.forall_mem_cons.mpr ⟨lw_p9, List.forall_mem_cons.mpr ⟨lw_p10, List.forall_mem_cons.mpr ⟨lw_p11, List.forall_mem_cons.mpr ⟨lw_p12, List.forall_mem_cons.mpr ⟨lw_p13, List.forall_mem_cons.mpr ⟨lw_p14, List.forall_mem_cons.mpr ⟨lw_p15, fun _ h => absurd h List.not_mem_nil⟩⟩⟩⟩⟩⟩⟩⟩⟩⟩⟩⟩⟩⟩⟩⟩
theorem lw_p16 : lw_okq (⟨"DemandTermsModel", "make", "(IIJZ)V"⟩, 22) := ⟨⟨by decide +kernel, by decide +kernel⟩, List.mem_of_getElem? (i := 466) (by decide +kernel), List.mem_of_getElem? (i := 561) (by decide +kernel), List.mem_of_getElem? (i := 562) (by decide +kernel)⟩
theorem lw_p17 : lw_okq (⟨"DemandTermsModel", "isTerm", "(I)Z"⟩, 22) := ⟨⟨by decide +kernel, by decide +kernel⟩, List.mem_of_getElem? (i := 466) (by decide +kernel), List.mem_of_getElem? (i := 569) (by decide +kernel), List.mem_of_getElem? (i := 570) (by decide +kernel)⟩
theorem lw_p18 : lw_okq (⟨"DemandTermsModel", "join", "(IIIZ)V"⟩, 22) := ⟨⟨by decide +kernel, by decide +kernel⟩, List.mem_of_getElem? (i := 466) (by decide +kernel), List.mem_of_getElem? (i := 573) (by decide +kernel), List.mem_of_getElem? (i := 574) (by decide +kernel)⟩
theorem lw_p19 : lw_okq (⟨"DemandTermsModel", "isSaid", "(II)Z"⟩, 22) := ⟨⟨by decide +kernel, by decide +kernel⟩, List.mem_of_getElem? (i := 466) (by decide +kernel), List.mem_of_getElem? (i := 577) (by decide +kernel), List.mem_of_getElem? (i := 578) (by decide +kernel)⟩
theorem lw_p20 : lw_okq (⟨"DemandTermsModel", "relation", "(II)I"⟩, 22) := ⟨⟨by decide +kernel, by decide +kernel⟩, List.mem_of_getElem? (i := 466) (by decide +kernel), List.mem_of_getElem? (i := 585) (by decide +kernel), List.mem_of_getElem? (i := 586) (by decide +kernel)⟩
theorem lw_p21 : lw_okq (⟨"DemandTermsModel", "aboutOf", "(II)I"⟩, 22) := ⟨⟨by decide +kernel, by decide +kernel⟩, List.mem_of_getElem? (i := 466) (by decide +kernel), List.mem_of_getElem? (i := 593) (by decide +kernel), List.mem_of_getElem? (i := 594) (by decide +kernel)⟩
theorem lw_p22 : lw_okq (⟨"DemandTermsModel", "isListed", "(II)Z"⟩, 22) := ⟨⟨by decide +kernel, by decide +kernel⟩, List.mem_of_getElem? (i := 466) (by decide +kernel), List.mem_of_getElem? (i := 597) (by decide +kernel), List.mem_of_getElem? (i := 598) (by decide +kernel)⟩
theorem lw_p23 : lw_okq (⟨"DemandTermsModel", "isWanted", "(I)Z"⟩, 22) := ⟨⟨by decide +kernel, by decide +kernel⟩, List.mem_of_getElem? (i := 466) (by decide +kernel), List.mem_of_getElem? (i := 601) (by decide +kernel), List.mem_of_getElem? (i := 602) (by decide +kernel)⟩
theorem lw_p24 : lw_okq (⟨"DemandTermsModel", "setOf", "(I)J"⟩, 22) := ⟨⟨by decide +kernel, by decide +kernel⟩, List.mem_of_getElem? (i := 466) (by decide +kernel), List.mem_of_getElem? (i := 609) (by decide +kernel), List.mem_of_getElem? (i := 610) (by decide +kernel)⟩
theorem lw_p25 : lw_okq (⟨"DemandTermsModel", "there", "(IJ)J"⟩, 22) := ⟨⟨by decide +kernel, by decide +kernel⟩, List.mem_of_getElem? (i := 466) (by decide +kernel), List.mem_of_getElem? (i := 617) (by decide +kernel), List.mem_of_getElem? (i := 618) (by decide +kernel)⟩
theorem lw_p26 : lw_okq (⟨"DemandTermsModel", "isDerived", "(II)Z"⟩, 22) := ⟨⟨by decide +kernel, by decide +kernel⟩, List.mem_of_getElem? (i := 466) (by decide +kernel), List.mem_of_getElem? (i := 625) (by decide +kernel), List.mem_of_getElem? (i := 626) (by decide +kernel)⟩
theorem lw_p27 : lw_okq (⟨"DemandTermsModel", "deriveRow", "(I)V"⟩, 22) := ⟨⟨by decide +kernel, by decide +kernel⟩, List.mem_of_getElem? (i := 466) (by decide +kernel), List.mem_of_getElem? (i := 629) (by decide +kernel), List.mem_of_getElem? (i := 630) (by decide +kernel)⟩
theorem lw_p28 : lw_okq (⟨"DemandTermsModel", "begin", "()V"⟩, 22) := ⟨⟨by decide +kernel, by decide +kernel⟩, List.mem_of_getElem? (i := 466) (by decide +kernel), List.mem_of_getElem? (i := 633) (by decide +kernel), List.mem_of_getElem? (i := 634) (by decide +kernel)⟩
theorem lw_p29 : lw_okq (⟨"DemandTermsModel", "has", "(II)Z"⟩, 22) := ⟨⟨by decide +kernel, by decide +kernel⟩, List.mem_of_getElem? (i := 466) (by decide +kernel), List.mem_of_getElem? (i := 637) (by decide +kernel), List.mem_of_getElem? (i := 638) (by decide +kernel)⟩
theorem lw_p30 : lw_okq (⟨"DemandTermsModel", "isAlike", "(III)Z"⟩, 22) := ⟨⟨by decide +kernel, by decide +kernel⟩, List.mem_of_getElem? (i := 466) (by decide +kernel), List.mem_of_getElem? (i := 641) (by decide +kernel), List.mem_of_getElem? (i := 642) (by decide +kernel)⟩
theorem lw_p31 : lw_okq (⟨"DemandTermsModel", "addPart", "(I)V"⟩, 22) := ⟨⟨by decide +kernel, by decide +kernel⟩, List.mem_of_getElem? (i := 466) (by decide +kernel), List.mem_of_getElem? (i := 645) (by decide +kernel), List.mem_of_getElem? (i := 646) (by decide +kernel)⟩
def lw_privs_2 : List (MethodName × Nat) := [(⟨"DemandTermsModel", "make", "(IIJZ)V"⟩, 22), (⟨"DemandTermsModel", "isTerm", "(I)Z"⟩, 22), (⟨"DemandTermsModel", "join", "(IIIZ)V"⟩, 22), (⟨"DemandTermsModel", "isSaid", "(II)Z"⟩, 22), (⟨"DemandTermsModel", "relation", "(II)I"⟩, 22), (⟨"DemandTermsModel", "aboutOf", "(II)I"⟩, 22), (⟨"DemandTermsModel", "isListed", "(II)Z"⟩, 22), (⟨"DemandTermsModel", "isWanted", "(I)Z"⟩, 22), (⟨"DemandTermsModel", "setOf", "(I)J"⟩, 22), (⟨"DemandTermsModel", "there", "(IJ)J"⟩, 22), (⟨"DemandTermsModel", "isDerived", "(II)Z"⟩, 22), (⟨"DemandTermsModel", "deriveRow", "(I)V"⟩, 22), (⟨"DemandTermsModel", "begin", "()V"⟩, 22), (⟨"DemandTermsModel", "has", "(II)Z"⟩, 22), (⟨"DemandTermsModel", "isAlike", "(III)Z"⟩, 22), (⟨"DemandTermsModel", "addPart", "(I)V"⟩, 22)]
theorem lw_r2 : ∀ q ∈ lw_privs_2, lw_okq q := List.forall_mem_cons.mpr ⟨lw_p16, List.forall_mem_cons.mpr ⟨lw_p17, List.forall_mem_cons.mpr ⟨lw_p18, List.forall_mem_cons.mpr ⟨lw_p19, List.forall_mem_cons.mpr ⟨lw_p20, List.forall_mem_cons.mpr ⟨lw_p21, List.forall_mem_cons.mpr ⟨lw_p22, List.forall_mem_cons.mpr ⟨lw_p23, List.forall_mem_cons.mpr ⟨lw_p24, List.forall_mem_cons.mpr ⟨lw_p25, List.forall_mem_cons.mpr ⟨lw_p26, List.forall_mem_cons.mpr ⟨lw_p27, List.forall_mem_cons.mpr ⟨lw_p28, List.forall_mem_cons.mpr ⟨lw_p29, List.forall_mem_cons.mpr ⟨lw_p30, List.forall_mem_cons.mpr ⟨lw_p31, fun _ h => absurd h List.not_mem_nil⟩⟩⟩⟩⟩⟩⟩⟩⟩⟩⟩⟩⟩⟩⟩⟩
theorem lw_p32 : lw_okq (⟨"DemandTermsModel", "isFull", "(I)Z"⟩, 22) := ⟨⟨by decide +kernel, by decide +kernel⟩, List.mem_of_getElem? (i := 466) (by decide +kernel), List.mem_of_getElem? (i := 649) (by decide +kernel), List.mem_of_getElem? (i := 650) (by decide +kernel)⟩
theorem lw_p33 : lw_okq (⟨"DemandTermsModel", "copy", "(II)V"⟩, 22) := ⟨⟨by decide +kernel, by decide +kernel⟩, List.mem_of_getElem? (i := 466) (by decide +kernel), List.mem_of_getElem? (i := 653) (by decide +kernel), List.mem_of_getElem? (i := 654) (by decide +kernel)⟩
theorem lw_p34 : lw_okq (⟨"DemandTermsModel", "isBar", "(I)Z"⟩, 22) := ⟨⟨by decide +kernel, by decide +kernel⟩, List.mem_of_getElem? (i := 466) (by decide +kernel), List.mem_of_getElem? (i := 665) (by decide +kernel), List.mem_of_getElem? (i := 666) (by decide +kernel)⟩
theorem lw_p35 : lw_okq (⟨"DemandTermsModel", "partOf", "(II)I"⟩, 22) := ⟨⟨by decide +kernel, by decide +kernel⟩, List.mem_of_getElem? (i := 466) (by decide +kernel), List.mem_of_getElem? (i := 669) (by decide +kernel), List.mem_of_getElem? (i := 670) (by decide +kernel)⟩
theorem lw_p36 : lw_okq (⟨"DemandTermsModel", "isPart", "(II)Z"⟩, 22) := ⟨⟨by decide +kernel, by decide +kernel⟩, List.mem_of_getElem? (i := 466) (by decide +kernel), List.mem_of_getElem? (i := 685) (by decide +kernel), List.mem_of_getElem? (i := 686) (by decide +kernel)⟩
theorem lw_p37 : lw_okq (⟨"DemandTermsModel", "look", "(I)I"⟩, 22) := ⟨⟨by decide +kernel, by decide +kernel⟩, List.mem_of_getElem? (i := 466) (by decide +kernel), List.mem_of_getElem? (i := 705) (by decide +kernel), List.mem_of_getElem? (i := 706) (by decide +kernel)⟩
theorem lw_p38 : lw_okq (⟨"DemandTermsModel", "counted", "(II)I"⟩, 22) := ⟨⟨by decide +kernel, by decide +kernel⟩, List.mem_of_getElem? (i := 466) (by decide +kernel), List.mem_of_getElem? (i := 709) (by decide +kernel), List.mem_of_getElem? (i := 710) (by decide +kernel)⟩
theorem lw_p39 : lw_okq (⟨"DemandTermsModel", "stateOf", "(I)I"⟩, 22) := ⟨⟨by decide +kernel, by decide +kernel⟩, List.mem_of_getElem? (i := 466) (by decide +kernel), List.mem_of_getElem? (i := 713) (by decide +kernel), List.mem_of_getElem? (i := 714) (by decide +kernel)⟩
theorem lw_p40 : lw_okq (⟨"DemandTermsModel", "openPart", "(I)I"⟩, 22) := ⟨⟨by decide +kernel, by decide +kernel⟩, List.mem_of_getElem? (i := 466) (by decide +kernel), List.mem_of_getElem? (i := 721) (by decide +kernel), List.mem_of_getElem? (i := 722) (by decide +kernel)⟩
theorem lw_p41 : lw_okq (⟨"DemandTermsModel", "firstKept", "()I"⟩, 22) := ⟨⟨by decide +kernel, by decide +kernel⟩, List.mem_of_getElem? (i := 466) (by decide +kernel), List.mem_of_getElem? (i := 729) (by decide +kernel), List.mem_of_getElem? (i := 730) (by decide +kernel)⟩
theorem lw_p42 : lw_okq (⟨"DemandTermsModel", "put", "(I)V"⟩, 22) := ⟨⟨by decide +kernel, by decide +kernel⟩, List.mem_of_getElem? (i := 466) (by decide +kernel), List.mem_of_getElem? (i := 745) (by decide +kernel), List.mem_of_getElem? (i := 746) (by decide +kernel)⟩
theorem lw_p43 : lw_okq (⟨"DemandTermsModel", "putTerm", "(I)V"⟩, 22) := ⟨⟨by decide +kernel, by decide +kernel⟩, List.mem_of_getElem? (i := 466) (by decide +kernel), List.mem_of_getElem? (i := 749) (by decide +kernel), List.mem_of_getElem? (i := 750) (by decide +kernel)⟩
theorem lw_p44 : lw_okq (⟨"DemandTermsModel", "putNumber", "(I)V"⟩, 22) := ⟨⟨by decide +kernel, by decide +kernel⟩, List.mem_of_getElem? (i := 466) (by decide +kernel), List.mem_of_getElem? (i := 753) (by decide +kernel), List.mem_of_getElem? (i := 754) (by decide +kernel)⟩
def lw_privs_3 : List (MethodName × Nat) := [(⟨"DemandTermsModel", "isFull", "(I)Z"⟩, 22), (⟨"DemandTermsModel", "copy", "(II)V"⟩, 22), (⟨"DemandTermsModel", "isBar", "(I)Z"⟩, 22), (⟨"DemandTermsModel", "partOf", "(II)I"⟩, 22), (⟨"DemandTermsModel", "isPart", "(II)Z"⟩, 22), (⟨"DemandTermsModel", "look", "(I)I"⟩, 22), (⟨"DemandTermsModel", "counted", "(II)I"⟩, 22), (⟨"DemandTermsModel", "stateOf", "(I)I"⟩, 22), (⟨"DemandTermsModel", "openPart", "(I)I"⟩, 22), (⟨"DemandTermsModel", "firstKept", "()I"⟩, 22), (⟨"DemandTermsModel", "put", "(I)V"⟩, 22), (⟨"DemandTermsModel", "putTerm", "(I)V"⟩, 22), (⟨"DemandTermsModel", "putNumber", "(I)V"⟩, 22)]
theorem lw_r3 : ∀ q ∈ lw_privs_3, lw_okq q := List.forall_mem_cons.mpr ⟨lw_p32, List.forall_mem_cons.mpr ⟨lw_p33, List.forall_mem_cons.mpr ⟨lw_p34, List.forall_mem_cons.mpr ⟨lw_p35, List.forall_mem_cons.mpr ⟨lw_p36, List.forall_mem_cons.mpr ⟨lw_p37, List.forall_mem_cons.mpr ⟨lw_p38, List.forall_mem_cons.mpr ⟨lw_p39, List.forall_mem_cons.mpr ⟨lw_p40, List.forall_mem_cons.mpr ⟨lw_p41, List.forall_mem_cons.mpr ⟨lw_p42, List.forall_mem_cons.mpr ⟨lw_p43, List.forall_mem_cons.mpr ⟨lw_p44, fun _ h => absurd h List.not_mem_nil⟩⟩⟩⟩⟩⟩⟩⟩⟩⟩⟩⟩⟩
def lw_privs : List (MethodName × Nat) := lw_privs_1 ++ (lw_privs_2 ++ (lw_privs_3))
def lw_tbl : List Cond := k2_sels lw_privs ++ tables_1
theorem lw_privs_ok : ∀ q ∈ lw_privs, lw_okq q := by
  show ∀ q ∈ lw_privs_1 ++ (lw_privs_2 ++ (lw_privs_3)), lw_okq q
  exact List.forall_mem_append.mpr ⟨lw_r1, List.forall_mem_append.mpr ⟨lw_r2, lw_r3⟩⟩
end
section
/-- the words that every method gets beside its own code: the tables' good ones -/
def AW : List Cond := lw_tbl.filter goodWord
theorem AW_t {w : Cond} (i : Nat) (h : tables_1[i]? = some w) (g : goodWord w = true) : w ∈ AW := List.mem_filter.mpr ⟨List.mem_append_right _ (List.mem_of_getElem? h), g⟩
theorem AW_s {w : Cond} (i : Nat) (h : (k2_sels lw_privs)[i]? = some w) (g : goodWord w = true) : w ∈ AW := List.mem_filter.mpr ⟨List.mem_append_left _ (List.mem_of_getElem? h), g⟩
abbrev wA (y : MethodName) (c : ByteArray) (n : Nat) (r : Option FieldType) : List Cond := Cond.code y c n r :: AW
theorem AW_good {w : Cond} (h : w ∈ AW) : (w.onTables && w.keeps) = true ∨ ∃ ty, w = .arrayClass ty := good_of_word (List.mem_filter.mp h).2
theorem gA {y : MethodName} {c : ByteArray} {n : Nat} {r : Option FieldType} (h : Cond.code y c n r ∈ AW) : GoodIn AW (wA y c n r) := fun w hw => by
  rcases List.mem_cons.mp hw with e | e
  · rw [e]; exact ⟨h, AW_good h⟩
  · exact ⟨e, AW_good e⟩
theorem gV {own C : String} {idx : Nat} {y : MethodName} {c : ByteArray} {n : Nat} {r : Option FieldType} (h1 : Cond.methodLink own idx y ∈ AW) (h2 : Cond.instanceMethod y ∈ AW) (h3 : Cond.selects C y y ∈ AW) (h4 : Cond.initialized C ∈ AW) (h5 : Cond.code y c n r ∈ AW) : GoodIn AW (wsV own idx C y (wA y c n r)) := fun w hw => by
  unfold wsV at hw
  rcases List.mem_append.mp hw with e | e
  · simp only [List.mem_cons, List.not_mem_nil, or_false] at e
    rcases e with e | e | e | e <;> rw [e] <;> first | exact ⟨h1, AW_good h1⟩ | exact ⟨h2, AW_good h2⟩ | exact ⟨h3, AW_good h3⟩ | exact ⟨h4, AW_good h4⟩
  · exact gA h5 w e
theorem gS {own : String} {idx : Nat} {y : MethodName} {c : ByteArray} {n : Nat} {r : Option FieldType} (h1 : Cond.methodLink own idx y ∈ AW) (h2 : Cond.static y ∈ AW) (h4 : Cond.initialized y.cls ∈ AW) (h5 : Cond.code y c n r ∈ AW) : GoodIn AW (va_wsS own idx y (wA y c n r)) := fun w hw => by
  unfold va_wsS at hw
  rcases List.mem_append.mp hw with e | e
  · simp only [List.mem_cons, List.not_mem_nil, or_false] at e
    rcases e with e | e | e <;> rw [e] <;> first | exact ⟨h1, AW_good h1⟩ | exact ⟨h2, AW_good h2⟩ | exact ⟨h4, AW_good h4⟩
  · exact gA h5 w e
def NWs : List (String × Nat × MethodName × String) := [("DemandTerms", 11, ⟨"DemandTerms$Names", "<init>", "()V"⟩, "DemandTerms"), ("DemandTerms", 18, ⟨"DemandTerms$TermTable", "<init>", "()V"⟩, "DemandTerms"), ("DemandTerms", 25, ⟨"DemandTerms$NeedRows", "<init>", "()V"⟩, "DemandTerms"), ("DemandTerms", 32, ⟨"DemandTerms$Clashes", "<init>", "()V"⟩, "DemandTerms"), ("DemandTerms", 43, ⟨"DemandTerms$Page", "<init>", "()V"⟩, "DemandTerms"), ("DemandTerms$Names", 35, ⟨"DemandTerms", "isWanted", "(J)Z"⟩, "DemandTerms"), ("DemandTerms$Names", 25, ⟨"DemandTerms", "hasVersion", "(JI)Z"⟩, "DemandTerms"), ("DemandTerms$Page", 21, ⟨"DemandTerms", "hasVersion", "(JI)Z"⟩, "DemandTerms")]
theorem NWs_in : ∀ q ∈ NWs, Cond.methodLinkNest q.1 q.2.1 q.2.2.1 q.2.2.2 ∈ tables_1 := by decide +kernel
def T_D : u_T := fun k => match k with
  | 0 => ("DemandTerms", "names", "LDemandTerms$Names;", true)
  | 1 => ("DemandTerms", "table", "LDemandTerms$TermTable;", true)
  | 2 => ("DemandTerms", "rows", "LDemandTerms$NeedRows;", true)
  | 3 => ("DemandTerms", "clashes", "LDemandTerms$Clashes;", true)
  | 4 => ("DemandTerms", "choice", "[J", true)
  | _ => ("DemandTerms", "page", "LDemandTerms$Page;", true)
def ty_D : Nat → FieldType := fun k => match k with
  | 0 => .object "DemandTerms$Names"
  | 1 => .object "DemandTerms$TermTable"
  | 2 => .object "DemandTerms$NeedRows"
  | 3 => .object "DemandTerms$Clashes"
  | 4 => .array .long
  | _ => .object "DemandTerms$Page"
theorem nm_D : ∀ a, a < 6 → ∀ b, b < 6 → a ≠ b → (T_D a).2.1 ≠ (T_D b).2.1 := by decide +kernel
theorem ty_D_ok : ∀ k, k < 6 → parseFieldDescriptor (T_D k).2.2.1 = some (ty_D k) := by decide +kernel
theorem hi_D_0 : ∀ w ∈ u_ws "DemandTerms" T_D 6, w ∈ tables_1 ∧ goodWord w = true := by decide +kernel
theorem hi_D : ∀ w ∈ u_ws "DemandTerms" T_D 6, w ∈ AW := fun w h => List.mem_filter.mpr ⟨List.mem_append_right _ (hi_D_0 w h).1, (hi_D_0 w h).2⟩
def T_N : u_T := fun k => match k with
  | 0 => ("DemandTerms$Names", "places", "[J", true)
  | _ => ("DemandTerms$Names", "size", "I", false)
def ty_N : Nat → FieldType := fun k => match k with
  | 0 => .array .long
  | _ => .int
theorem nm_N : ∀ a, a < 2 → ∀ b, b < 2 → a ≠ b → (T_N a).2.1 ≠ (T_N b).2.1 := by decide +kernel
theorem ty_N_ok : ∀ k, k < 2 → parseFieldDescriptor (T_N k).2.2.1 = some (ty_N k) := by decide +kernel
theorem hi_N_0 : ∀ w ∈ u_ws "DemandTerms$Names" T_N 2, w ∈ tables_1 ∧ goodWord w = true := by decide +kernel
theorem hi_N : ∀ w ∈ u_ws "DemandTerms$Names" T_N 2, w ∈ AW := fun w h => List.mem_filter.mpr ⟨List.mem_append_right _ (hi_N_0 w h).1, (hi_N_0 w h).2⟩
def T_T : u_T := fun k => match k with
  | 0 => ("DemandTerms$TermTable", "name", "[I", true)
  | 1 => ("DemandTerms$TermTable", "places", "[J", true)
  | _ => ("DemandTerms$TermTable", "size", "I", false)
def ty_T : Nat → FieldType := fun k => match k with
  | 0 => .array .int
  | 1 => .array .long
  | _ => .int
theorem nm_T : ∀ a, a < 3 → ∀ b, b < 3 → a ≠ b → (T_T a).2.1 ≠ (T_T b).2.1 := by decide +kernel
theorem ty_T_ok : ∀ k, k < 3 → parseFieldDescriptor (T_T k).2.2.1 = some (ty_T k) := by decide +kernel
theorem hi_T_0 : ∀ w ∈ u_ws "DemandTerms$TermTable" T_T 3, w ∈ tables_1 ∧ goodWord w = true := by decide +kernel
theorem hi_T : ∀ w ∈ u_ws "DemandTerms$TermTable" T_T 3, w ∈ AW := fun w h => List.mem_filter.mpr ⟨List.mem_append_right _ (hi_T_0 w h).1, (hi_T_0 w h).2⟩
def T_R : u_T := fun k => match k with
  | 0 => ("DemandTerms$NeedRows", "name", "[I", true)
  | 1 => ("DemandTerms$NeedRows", "version", "[I", true)
  | 2 => ("DemandTerms$NeedRows", "other", "[I", true)
  | 3 => ("DemandTerms$NeedRows", "needed", "[J", true)
  | 4 => ("DemandTerms$NeedRows", "kind", "[I", true)
  | _ => ("DemandTerms$NeedRows", "size", "I", false)
def ty_R : Nat → FieldType := fun k => match k with
  | 0 => .array .int
  | 1 => .array .int
  | 2 => .array .int
  | 3 => .array .long
  | 4 => .array .int
  | _ => .int
theorem nm_R : ∀ a, a < 6 → ∀ b, b < 6 → a ≠ b → (T_R a).2.1 ≠ (T_R b).2.1 := by decide +kernel
theorem ty_R_ok : ∀ k, k < 6 → parseFieldDescriptor (T_R k).2.2.1 = some (ty_R k) := by decide +kernel
theorem hi_R_0 : ∀ w ∈ u_ws "DemandTerms$NeedRows" T_R 6, w ∈ tables_1 ∧ goodWord w = true := by decide +kernel
theorem hi_R : ∀ w ∈ u_ws "DemandTerms$NeedRows" T_R 6, w ∈ AW := fun w h => List.mem_filter.mpr ⟨List.mem_append_right _ (hi_R_0 w h).1, (hi_R_0 w h).2⟩
def T_C : u_T := fun k => match k with
  | 0 => ("DemandTerms$Clashes", "held", "[I", true)
  | 1 => ("DemandTerms$Clashes", "places", "[J", true)
  | 2 => ("DemandTerms$Clashes", "source", "[I", true)
  | 3 => ("DemandTerms$Clashes", "run", "[J", true)
  | _ => ("DemandTerms$Clashes", "size", "I", false)
def ty_C : Nat → FieldType := fun k => match k with
  | 0 => .array .int
  | 1 => .array .long
  | 2 => .array .int
  | 3 => .array .long
  | _ => .int
theorem nm_C : ∀ a, a < 5 → ∀ b, b < 5 → a ≠ b → (T_C a).2.1 ≠ (T_C b).2.1 := by decide +kernel
theorem ty_C_ok : ∀ k, k < 5 → parseFieldDescriptor (T_C k).2.2.1 = some (ty_C k) := by decide +kernel
theorem hi_C_0 : ∀ w ∈ u_ws "DemandTerms$Clashes" T_C 5, w ∈ tables_1 ∧ goodWord w = true := by decide +kernel
theorem hi_C : ∀ w ∈ u_ws "DemandTerms$Clashes" T_C 5, w ∈ AW := fun w h => List.mem_filter.mpr ⟨List.mem_append_right _ (hi_C_0 w h).1, (hi_C_0 w h).2⟩
def T_G : u_T := fun k => match k with
  | 0 => ("DemandTerms$Page", "signs", "[C", true)
  | _ => ("DemandTerms$Page", "length", "I", false)
def ty_G : Nat → FieldType := fun k => match k with
  | 0 => .array .char
  | _ => .int
theorem nm_G : ∀ a, a < 2 → ∀ b, b < 2 → a ≠ b → (T_G a).2.1 ≠ (T_G b).2.1 := by decide +kernel
theorem ty_G_ok : ∀ k, k < 2 → parseFieldDescriptor (T_G k).2.2.1 = some (ty_G k) := by decide +kernel
theorem hi_G_0 : ∀ w ∈ u_ws "DemandTerms$Page" T_G 2, w ∈ tables_1 ∧ goodWord w = true := by decide +kernel
theorem hi_G : ∀ w ∈ u_ws "DemandTerms$Page" T_G 2, w ∈ AW := fun w h => List.mem_filter.mpr ⟨List.mem_append_right _ (hi_G_0 w h).1, (hi_G_0 w h).2⟩
def T_M : u_T := fun k => match k with
  | 0 => ("DemandTermsModel", "code", "I", false)
  | 1 => ("DemandTermsModel", "versions", "[I", true)
  | 2 => ("DemandTermsModel", "names", "I", false)
  | 3 => ("DemandTermsModel", "terms", "I", false)
  | 4 => ("DemandTermsModel", "bars", "I", false)
  | 5 => ("DemandTermsModel", "needs", "I", false)
  | 6 => ("DemandTermsModel", "nameOf", "[I", true)
  | 7 => ("DemandTermsModel", "says", "[Z", true)
  | 8 => ("DemandTermsModel", "parts", "[I", true)
  | 9 => ("DemandTermsModel", "dName", "[I", true)
  | 10 => ("DemandTermsModel", "dFirst", "[I", true)
  | 11 => ("DemandTermsModel", "dLast", "[I", true)
  | 12 => ("DemandTermsModel", "dOther", "[I", true)
  | 13 => ("DemandTermsModel", "dKind", "[I", true)
  | 14 => ("DemandTermsModel", "dSet", "[J", true)
  | 15 => ("DemandTermsModel", "nName", "[I", true)
  | 16 => ("DemandTermsModel", "nVersion", "[I", true)
  | 17 => ("DemandTermsModel", "nOther", "[I", true)
  | 18 => ("DemandTermsModel", "nKind", "[I", true)
  | 19 => ("DemandTermsModel", "nSet", "[J", true)
  | 20 => ("DemandTermsModel", "out", "[I", true)
  | _ => ("DemandTermsModel", "printed", "I", false)
def ty_M : Nat → FieldType := fun k => match k with
  | 0 => .int
  | 1 => .array .int
  | 2 => .int
  | 3 => .int
  | 4 => .int
  | 5 => .int
  | 6 => .array .int
  | 7 => .array .boolean
  | 8 => .array .int
  | 9 => .array .int
  | 10 => .array .int
  | 11 => .array .int
  | 12 => .array .int
  | 13 => .array .int
  | 14 => .array .long
  | 15 => .array .int
  | 16 => .array .int
  | 17 => .array .int
  | 18 => .array .int
  | 19 => .array .long
  | 20 => .array .int
  | _ => .int
theorem nm_M : ∀ a, a < 22 → ∀ b, b < 22 → a ≠ b → (T_M a).2.1 ≠ (T_M b).2.1 := by decide +kernel
theorem ty_M_ok : ∀ k, k < 22 → parseFieldDescriptor (T_M k).2.2.1 = some (ty_M k) := by decide +kernel
theorem hi_M_0 : ∀ w ∈ u_ws "DemandTermsModel" T_M 22, w ∈ tables_1 ∧ goodWord w = true := by decide +kernel
theorem hi_M : ∀ w ∈ u_ws "DemandTermsModel" T_M 22, w ∈ AW := fun w h => List.mem_filter.mpr ⟨List.mem_append_right _ (hi_M_0 w h).1, (hi_M_0 w h).2⟩
abbrev vwCl : List vw_C := [("DemandTerms", T_D, 6), ("DemandTerms$Names", T_N, 2), ("DemandTerms$TermTable", T_T, 3), ("DemandTerms$NeedRows", T_R, 6), ("DemandTerms$Clashes", T_C, 5), ("DemandTerms$Page", T_G, 2), ("DemandTermsModel", T_M, 22)]
abbrev y_D_init : MethodName := ⟨"DemandTerms", "<init>", "()V"⟩
theorem q_D_init : y_D_init.cls = "DemandTerms" ∧ y_D_init.cls ≠ "java/lang/invoke/MethodHandle" ∧ y_D_init.cls ≠ "java/lang/invoke/VarHandle" ∧ (parseMethodDescriptor y_D_init.desc).map (fun d => d.parameters.length) = some 0 := by decide +kernel
abbrev y_D_versions : MethodName := ⟨"DemandTerms", "versions", "(I)I"⟩
theorem q_D_versions : y_D_versions.cls = "DemandTerms" ∧ y_D_versions.cls ≠ "java/lang/invoke/MethodHandle" ∧ y_D_versions.cls ≠ "java/lang/invoke/VarHandle" ∧ (parseMethodDescriptor y_D_versions.desc).map (fun d => d.parameters.length) = some 1 := by decide +kernel
abbrev y_D_term : MethodName := ⟨"DemandTerms", "term", "(IJZ)I"⟩
theorem q_D_term : y_D_term.cls = "DemandTerms" ∧ y_D_term.cls ≠ "java/lang/invoke/MethodHandle" ∧ y_D_term.cls ≠ "java/lang/invoke/VarHandle" ∧ (parseMethodDescriptor y_D_term.desc).map (fun d => d.parameters.length) = some 3 := by decide +kernel
abbrev y_D_both : MethodName := ⟨"DemandTerms", "both", "(IIZ)I"⟩
theorem q_D_both : y_D_both.cls = "DemandTerms" ∧ y_D_both.cls ≠ "java/lang/invoke/MethodHandle" ∧ y_D_both.cls ≠ "java/lang/invoke/VarHandle" ∧ (parseMethodDescriptor y_D_both.desc).map (fun d => d.parameters.length) = some 3 := by decide +kernel
abbrev y_D_relate : MethodName := ⟨"DemandTerms", "relate", "(II)I"⟩
theorem q_D_relate : y_D_relate.cls = "DemandTerms" ∧ y_D_relate.cls ≠ "java/lang/invoke/MethodHandle" ∧ y_D_relate.cls ≠ "java/lang/invoke/VarHandle" ∧ (parseMethodDescriptor y_D_relate.desc).map (fun d => d.parameters.length) = some 2 := by decide +kernel
abbrev y_D_relation : MethodName := ⟨"DemandTerms", "relation", "(JJ)I"⟩
theorem q_D_relation : y_D_relation.cls = "DemandTerms" ∧ y_D_relation.cls ≠ "java/lang/invoke/MethodHandle" ∧ y_D_relation.cls ≠ "java/lang/invoke/VarHandle" ∧ (parseMethodDescriptor y_D_relation.desc).map (fun d => d.parameters.length) = some 2 := by decide +kernel
abbrev y_D_about : MethodName := ⟨"DemandTerms", "about", "(II)I"⟩
theorem q_D_about : y_D_about.cls = "DemandTerms" ∧ y_D_about.cls ≠ "java/lang/invoke/MethodHandle" ∧ y_D_about.cls ≠ "java/lang/invoke/VarHandle" ∧ (parseMethodDescriptor y_D_about.desc).map (fun d => d.parameters.length) = some 2 := by decide +kernel
abbrev y_D_describe : MethodName := ⟨"DemandTerms", "describe", "(IJI)I"⟩
theorem q_D_describe : y_D_describe.cls = "DemandTerms" ∧ y_D_describe.cls ≠ "java/lang/invoke/MethodHandle" ∧ y_D_describe.cls ≠ "java/lang/invoke/VarHandle" ∧ (parseMethodDescriptor y_D_describe.desc).map (fun d => d.parameters.length) = some 3 := by decide +kernel
abbrev y_D_isWanted : MethodName := ⟨"DemandTerms", "isWanted", "(J)Z"⟩
theorem q_D_isWanted : y_D_isWanted.cls = "DemandTerms" ∧ y_D_isWanted.cls ≠ "java/lang/invoke/MethodHandle" ∧ y_D_isWanted.cls ≠ "java/lang/invoke/VarHandle" ∧ (parseMethodDescriptor y_D_isWanted.desc).map (fun d => d.parameters.length) = some 1 := by decide +kernel
abbrev y_D_set : MethodName := ⟨"DemandTerms", "set", "(I)J"⟩
theorem q_D_set : y_D_set.cls = "DemandTerms" ∧ y_D_set.cls ≠ "java/lang/invoke/MethodHandle" ∧ y_D_set.cls ≠ "java/lang/invoke/VarHandle" ∧ (parseMethodDescriptor y_D_set.desc).map (fun d => d.parameters.length) = some 1 := by decide +kernel
abbrev y_D_needs : MethodName := ⟨"DemandTerms", "needs", "(IIIJI)Z"⟩
theorem q_D_needs : y_D_needs.cls = "DemandTerms" ∧ y_D_needs.cls ≠ "java/lang/invoke/MethodHandle" ∧ y_D_needs.cls ≠ "java/lang/invoke/VarHandle" ∧ (parseMethodDescriptor y_D_needs.desc).map (fun d => d.parameters.length) = some 5 := by decide +kernel
abbrev y_D_hasVersion : MethodName := ⟨"DemandTerms", "hasVersion", "(JI)Z"⟩
theorem q_D_hasVersion : y_D_hasVersion.cls = "DemandTerms" ∧ y_D_hasVersion.cls ≠ "java/lang/invoke/MethodHandle" ∧ y_D_hasVersion.cls ≠ "java/lang/invoke/VarHandle" ∧ (parseMethodDescriptor y_D_hasVersion.desc).map (fun d => d.parameters.length) = some 2 := by decide +kernel
abbrev y_D_derive : MethodName := ⟨"DemandTerms", "derive", "(II)I"⟩
theorem q_D_derive : y_D_derive.cls = "DemandTerms" ∧ y_D_derive.cls ≠ "java/lang/invoke/MethodHandle" ∧ y_D_derive.cls ≠ "java/lang/invoke/VarHandle" ∧ (parseMethodDescriptor y_D_derive.desc).map (fun d => d.parameters.length) = some 2 := by decide +kernel
abbrev y_D_isDerived : MethodName := ⟨"DemandTerms", "isDerived", "(I)Z"⟩
theorem q_D_isDerived : y_D_isDerived.cls = "DemandTerms" ∧ y_D_isDerived.cls ≠ "java/lang/invoke/MethodHandle" ∧ y_D_isDerived.cls ≠ "java/lang/invoke/VarHandle" ∧ (parseMethodDescriptor y_D_isDerived.desc).map (fun d => d.parameters.length) = some 1 := by decide +kernel
abbrev y_D_deriveFrom : MethodName := ⟨"DemandTerms", "deriveFrom", "(I)Z"⟩
theorem q_D_deriveFrom : y_D_deriveFrom.cls = "DemandTerms" ∧ y_D_deriveFrom.cls ≠ "java/lang/invoke/MethodHandle" ∧ y_D_deriveFrom.cls ≠ "java/lang/invoke/VarHandle" ∧ (parseMethodDescriptor y_D_deriveFrom.desc).map (fun d => d.parameters.length) = some 1 := by decide +kernel
abbrev y_D_runAround : MethodName := ⟨"DemandTerms", "runAround", "(JI)J"⟩
theorem q_D_runAround : y_D_runAround.cls = "DemandTerms" ∧ y_D_runAround.cls ≠ "java/lang/invoke/MethodHandle" ∧ y_D_runAround.cls ≠ "java/lang/invoke/VarHandle" ∧ (parseMethodDescriptor y_D_runAround.desc).map (fun d => d.parameters.length) = some 2 := by decide +kernel
abbrev y_D_putPart : MethodName := ⟨"DemandTerms", "putPart", "(IIJ)V"⟩
theorem q_D_putPart : y_D_putPart.cls = "DemandTerms" ∧ y_D_putPart.cls ≠ "java/lang/invoke/MethodHandle" ∧ y_D_putPart.cls ≠ "java/lang/invoke/VarHandle" ∧ (parseMethodDescriptor y_D_putPart.desc).map (fun d => d.parameters.length) = some 3 := by decide +kernel
abbrev y_D_bar : MethodName := ⟨"DemandTerms", "bar", "(IJZ)I"⟩
theorem q_D_bar : y_D_bar.cls = "DemandTerms" ∧ y_D_bar.cls ≠ "java/lang/invoke/MethodHandle" ∧ y_D_bar.cls ≠ "java/lang/invoke/VarHandle" ∧ (parseMethodDescriptor y_D_bar.desc).map (fun d => d.parameters.length) = some 3 := by decide +kernel
abbrev y_D_learn : MethodName := ⟨"DemandTerms", "learn", "(III)I"⟩
theorem q_D_learn : y_D_learn.cls = "DemandTerms" ∧ y_D_learn.cls ≠ "java/lang/invoke/MethodHandle" ∧ y_D_learn.cls ≠ "java/lang/invoke/VarHandle" ∧ (parseMethodDescriptor y_D_learn.desc).map (fun d => d.parameters.length) = some 3 := by decide +kernel
abbrev y_D_placesIn : MethodName := ⟨"DemandTerms", "placesIn", "(II)J"⟩
theorem q_D_placesIn : y_D_placesIn.cls = "DemandTerms" ∧ y_D_placesIn.cls ≠ "java/lang/invoke/MethodHandle" ∧ y_D_placesIn.cls ≠ "java/lang/invoke/VarHandle" ∧ (parseMethodDescriptor y_D_placesIn.desc).map (fun d => d.parameters.length) = some 2 := by decide +kernel
abbrev y_D_count : MethodName := ⟨"DemandTerms", "count", "()I"⟩
theorem q_D_count : y_D_count.cls = "DemandTerms" ∧ y_D_count.cls ≠ "java/lang/invoke/MethodHandle" ∧ y_D_count.cls ≠ "java/lang/invoke/VarHandle" ∧ (parseMethodDescriptor y_D_count.desc).map (fun d => d.parameters.length) = some 0 := by decide +kernel
abbrev y_D_terms : MethodName := ⟨"DemandTerms", "terms", "(I)I"⟩
theorem q_D_terms : y_D_terms.cls = "DemandTerms" ∧ y_D_terms.cls ≠ "java/lang/invoke/MethodHandle" ∧ y_D_terms.cls ≠ "java/lang/invoke/VarHandle" ∧ (parseMethodDescriptor y_D_terms.desc).map (fun d => d.parameters.length) = some 1 := by decide +kernel
abbrev y_D_part : MethodName := ⟨"DemandTerms", "part", "(III)I"⟩
theorem q_D_part : y_D_part.cls = "DemandTerms" ∧ y_D_part.cls ≠ "java/lang/invoke/MethodHandle" ∧ y_D_part.cls ≠ "java/lang/invoke/VarHandle" ∧ (parseMethodDescriptor y_D_part.desc).map (fun d => d.parameters.length) = some 3 := by decide +kernel
abbrev y_D_partSet : MethodName := ⟨"DemandTerms", "partSet", "(II)J"⟩
theorem q_D_partSet : y_D_partSet.cls = "DemandTerms" ∧ y_D_partSet.cls ≠ "java/lang/invoke/MethodHandle" ∧ y_D_partSet.cls ≠ "java/lang/invoke/VarHandle" ∧ (parseMethodDescriptor y_D_partSet.desc).map (fun d => d.parameters.length) = some 2 := by decide +kernel
abbrev y_D_choose : MethodName := ⟨"DemandTerms", "choose", "(I)Z"⟩
theorem q_D_choose : y_D_choose.cls = "DemandTerms" ∧ y_D_choose.cls ≠ "java/lang/invoke/MethodHandle" ∧ y_D_choose.cls ≠ "java/lang/invoke/VarHandle" ∧ (parseMethodDescriptor y_D_choose.desc).map (fun d => d.parameters.length) = some 1 := by decide +kernel
abbrev y_D_narrowChoice : MethodName := ⟨"DemandTerms", "narrowChoice", "(IJ)V"⟩
theorem q_D_narrowChoice : y_D_narrowChoice.cls = "DemandTerms" ∧ y_D_narrowChoice.cls ≠ "java/lang/invoke/MethodHandle" ∧ y_D_narrowChoice.cls ≠ "java/lang/invoke/VarHandle" ∧ (parseMethodDescriptor y_D_narrowChoice.desc).map (fun d => d.parameters.length) = some 2 := by decide +kernel
abbrev y_D_forget : MethodName := ⟨"DemandTerms", "forget", "()V"⟩
theorem q_D_forget : y_D_forget.cls = "DemandTerms" ∧ y_D_forget.cls ≠ "java/lang/invoke/MethodHandle" ∧ y_D_forget.cls ≠ "java/lang/invoke/VarHandle" ∧ (parseMethodDescriptor y_D_forget.desc).map (fun d => d.parameters.length) = some 0 := by decide +kernel
abbrev y_D_state : MethodName := ⟨"DemandTerms", "state", "(I)I"⟩
theorem q_D_state : y_D_state.cls = "DemandTerms" ∧ y_D_state.cls ≠ "java/lang/invoke/MethodHandle" ∧ y_D_state.cls ≠ "java/lang/invoke/VarHandle" ∧ (parseMethodDescriptor y_D_state.desc).map (fun d => d.parameters.length) = some 1 := by decide +kernel
abbrev y_D_stateOf : MethodName := ⟨"DemandTerms", "stateOf", "(I)I"⟩
theorem q_D_stateOf : y_D_stateOf.cls = "DemandTerms" ∧ y_D_stateOf.cls ≠ "java/lang/invoke/MethodHandle" ∧ y_D_stateOf.cls ≠ "java/lang/invoke/VarHandle" ∧ (parseMethodDescriptor y_D_stateOf.desc).map (fun d => d.parameters.length) = some 1 := by decide +kernel
abbrev y_D_relationToChoice : MethodName := ⟨"DemandTerms", "relationToChoice", "(II)I"⟩
theorem q_D_relationToChoice : y_D_relationToChoice.cls = "DemandTerms" ∧ y_D_relationToChoice.cls ≠ "java/lang/invoke/MethodHandle" ∧ y_D_relationToChoice.cls ≠ "java/lang/invoke/VarHandle" ∧ (parseMethodDescriptor y_D_relationToChoice.desc).map (fun d => d.parameters.length) = some 2 := by decide +kernel
abbrev y_D_forced : MethodName := ⟨"DemandTerms", "forced", "(I)I"⟩
theorem q_D_forced : y_D_forced.cls = "DemandTerms" ∧ y_D_forced.cls ≠ "java/lang/invoke/MethodHandle" ∧ y_D_forced.cls ≠ "java/lang/invoke/VarHandle" ∧ (parseMethodDescriptor y_D_forced.desc).map (fun d => d.parameters.length) = some 1 := by decide +kernel
abbrev y_D_openName : MethodName := ⟨"DemandTerms", "openName", "(I)I"⟩
theorem q_D_openName : y_D_openName.cls = "DemandTerms" ∧ y_D_openName.cls ≠ "java/lang/invoke/MethodHandle" ∧ y_D_openName.cls ≠ "java/lang/invoke/VarHandle" ∧ (parseMethodDescriptor y_D_openName.desc).map (fun d => d.parameters.length) = some 1 := by decide +kernel
abbrev y_D_spread : MethodName := ⟨"DemandTerms", "spread", "()I"⟩
theorem q_D_spread : y_D_spread.cls = "DemandTerms" ∧ y_D_spread.cls ≠ "java/lang/invoke/MethodHandle" ∧ y_D_spread.cls ≠ "java/lang/invoke/VarHandle" ∧ (parseMethodDescriptor y_D_spread.desc).map (fun d => d.parameters.length) = some 0 := by decide +kernel
abbrev y_D_firstKept : MethodName := ⟨"DemandTerms", "firstKept", "()I"⟩
theorem q_D_firstKept : y_D_firstKept.cls = "DemandTerms" ∧ y_D_firstKept.cls ≠ "java/lang/invoke/MethodHandle" ∧ y_D_firstKept.cls ≠ "java/lang/invoke/VarHandle" ∧ (parseMethodDescriptor y_D_firstKept.desc).map (fun d => d.parameters.length) = some 0 := by decide +kernel
abbrev y_D_force : MethodName := ⟨"DemandTerms", "force", "(I)V"⟩
theorem q_D_force : y_D_force.cls = "DemandTerms" ∧ y_D_force.cls ≠ "java/lang/invoke/MethodHandle" ∧ y_D_force.cls ≠ "java/lang/invoke/VarHandle" ∧ (parseMethodDescriptor y_D_force.desc).map (fun d => d.parameters.length) = some 1 := by decide +kernel
abbrev y_D_chosen : MethodName := ⟨"DemandTerms", "chosen", "(II)I"⟩
theorem q_D_chosen : y_D_chosen.cls = "DemandTerms" ∧ y_D_chosen.cls ≠ "java/lang/invoke/MethodHandle" ∧ y_D_chosen.cls ≠ "java/lang/invoke/VarHandle" ∧ (parseMethodDescriptor y_D_chosen.desc).map (fun d => d.parameters.length) = some 2 := by decide +kernel
abbrev y_D_chosenSet : MethodName := ⟨"DemandTerms", "chosenSet", "(I)J"⟩
theorem q_D_chosenSet : y_D_chosenSet.cls = "DemandTerms" ∧ y_D_chosenSet.cls ≠ "java/lang/invoke/MethodHandle" ∧ y_D_chosenSet.cls ≠ "java/lang/invoke/VarHandle" ∧ (parseMethodDescriptor y_D_chosenSet.desc).map (fun d => d.parameters.length) = some 1 := by decide +kernel
abbrev y_D_print : MethodName := ⟨"DemandTerms", "print", "(I)I"⟩
theorem q_D_print : y_D_print.cls = "DemandTerms" ∧ y_D_print.cls ≠ "java/lang/invoke/MethodHandle" ∧ y_D_print.cls ≠ "java/lang/invoke/VarHandle" ∧ (parseMethodDescriptor y_D_print.desc).map (fun d => d.parameters.length) = some 1 := by decide +kernel
abbrev y_D_printPart : MethodName := ⟨"DemandTerms", "printPart", "(IJ)V"⟩
theorem q_D_printPart : y_D_printPart.cls = "DemandTerms" ∧ y_D_printPart.cls ≠ "java/lang/invoke/MethodHandle" ∧ y_D_printPart.cls ≠ "java/lang/invoke/VarHandle" ∧ (parseMethodDescriptor y_D_printPart.desc).map (fun d => d.parameters.length) = some 2 := by decide +kernel
abbrev y_D_at : MethodName := ⟨"DemandTerms", "at", "(I)I"⟩
theorem q_D_at : y_D_at.cls = "DemandTerms" ∧ y_D_at.cls ≠ "java/lang/invoke/MethodHandle" ∧ y_D_at.cls ≠ "java/lang/invoke/VarHandle" ∧ (parseMethodDescriptor y_D_at.desc).map (fun d => d.parameters.length) = some 1 := by decide +kernel
abbrev y_N_init : MethodName := ⟨"DemandTerms$Names", "<init>", "()V"⟩
theorem q_N_init : y_N_init.cls = "DemandTerms$Names" ∧ y_N_init.cls ≠ "java/lang/invoke/MethodHandle" ∧ y_N_init.cls ≠ "java/lang/invoke/VarHandle" ∧ (parseMethodDescriptor y_N_init.desc).map (fun d => d.parameters.length) = some 0 := by decide +kernel
abbrev y_N_add : MethodName := ⟨"DemandTerms$Names", "add", "(I)I"⟩
theorem q_N_add : y_N_add.cls = "DemandTerms$Names" ∧ y_N_add.cls ≠ "java/lang/invoke/MethodHandle" ∧ y_N_add.cls ≠ "java/lang/invoke/VarHandle" ∧ (parseMethodDescriptor y_N_add.desc).map (fun d => d.parameters.length) = some 1 := by decide +kernel
abbrev y_N_everywhere : MethodName := ⟨"DemandTerms$Names", "everywhere", "(I)J"⟩
theorem q_N_everywhere : y_N_everywhere.cls = "DemandTerms$Names" ∧ y_N_everywhere.cls ≠ "java/lang/invoke/MethodHandle" ∧ y_N_everywhere.cls ≠ "java/lang/invoke/VarHandle" ∧ (parseMethodDescriptor y_N_everywhere.desc).map (fun d => d.parameters.length) = some 1 := by decide +kernel
abbrev y_N_has : MethodName := ⟨"DemandTerms$Names", "has", "(I)Z"⟩
theorem q_N_has : y_N_has.cls = "DemandTerms$Names" ∧ y_N_has.cls ≠ "java/lang/invoke/MethodHandle" ∧ y_N_has.cls ≠ "java/lang/invoke/VarHandle" ∧ (parseMethodDescriptor y_N_has.desc).map (fun d => d.parameters.length) = some 1 := by decide +kernel
abbrev y_N_placesOf : MethodName := ⟨"DemandTerms$Names", "placesOf", "(IJZ)J"⟩
theorem q_N_placesOf : y_N_placesOf.cls = "DemandTerms$Names" ∧ y_N_placesOf.cls ≠ "java/lang/invoke/MethodHandle" ∧ y_N_placesOf.cls ≠ "java/lang/invoke/VarHandle" ∧ (parseMethodDescriptor y_N_placesOf.desc).map (fun d => d.parameters.length) = some 3 := by decide +kernel
abbrev y_N_setOf : MethodName := ⟨"DemandTerms$Names", "setOf", "(IJ)J"⟩
theorem q_N_setOf : y_N_setOf.cls = "DemandTerms$Names" ∧ y_N_setOf.cls ≠ "java/lang/invoke/MethodHandle" ∧ y_N_setOf.cls ≠ "java/lang/invoke/VarHandle" ∧ (parseMethodDescriptor y_N_setOf.desc).map (fun d => d.parameters.length) = some 2 := by decide +kernel
abbrev y_N_hasVersion : MethodName := ⟨"DemandTerms$Names", "hasVersion", "(II)Z"⟩
theorem q_N_hasVersion : y_N_hasVersion.cls = "DemandTerms$Names" ∧ y_N_hasVersion.cls ≠ "java/lang/invoke/MethodHandle" ∧ y_N_hasVersion.cls ≠ "java/lang/invoke/VarHandle" ∧ (parseMethodDescriptor y_N_hasVersion.desc).map (fun d => d.parameters.length) = some 2 := by decide +kernel
abbrev y_N_size : MethodName := ⟨"DemandTerms$Names", "size", "()I"⟩
theorem q_N_size : y_N_size.cls = "DemandTerms$Names" ∧ y_N_size.cls ≠ "java/lang/invoke/MethodHandle" ∧ y_N_size.cls ≠ "java/lang/invoke/VarHandle" ∧ (parseMethodDescriptor y_N_size.desc).map (fun d => d.parameters.length) = some 0 := by decide +kernel
abbrev y_T_init : MethodName := ⟨"DemandTerms$TermTable", "<init>", "()V"⟩
theorem q_T_init : y_T_init.cls = "DemandTerms$TermTable" ∧ y_T_init.cls ≠ "java/lang/invoke/MethodHandle" ∧ y_T_init.cls ≠ "java/lang/invoke/VarHandle" ∧ (parseMethodDescriptor y_T_init.desc).map (fun d => d.parameters.length) = some 0 := by decide +kernel
abbrev y_T_add : MethodName := ⟨"DemandTerms$TermTable", "add", "(IJ)I"⟩
theorem q_T_add : y_T_add.cls = "DemandTerms$TermTable" ∧ y_T_add.cls ≠ "java/lang/invoke/MethodHandle" ∧ y_T_add.cls ≠ "java/lang/invoke/VarHandle" ∧ (parseMethodDescriptor y_T_add.desc).map (fun d => d.parameters.length) = some 2 := by decide +kernel
abbrev y_T_has : MethodName := ⟨"DemandTerms$TermTable", "has", "(I)Z"⟩
theorem q_T_has : y_T_has.cls = "DemandTerms$TermTable" ∧ y_T_has.cls ≠ "java/lang/invoke/MethodHandle" ∧ y_T_has.cls ≠ "java/lang/invoke/VarHandle" ∧ (parseMethodDescriptor y_T_has.desc).map (fun d => d.parameters.length) = some 1 := by decide +kernel
abbrev y_T_nameOf : MethodName := ⟨"DemandTerms$TermTable", "nameOf", "(I)I"⟩
theorem q_T_nameOf : y_T_nameOf.cls = "DemandTerms$TermTable" ∧ y_T_nameOf.cls ≠ "java/lang/invoke/MethodHandle" ∧ y_T_nameOf.cls ≠ "java/lang/invoke/VarHandle" ∧ (parseMethodDescriptor y_T_nameOf.desc).map (fun d => d.parameters.length) = some 1 := by decide +kernel
abbrev y_T_placesOf : MethodName := ⟨"DemandTerms$TermTable", "placesOf", "(I)J"⟩
theorem q_T_placesOf : y_T_placesOf.cls = "DemandTerms$TermTable" ∧ y_T_placesOf.cls ≠ "java/lang/invoke/MethodHandle" ∧ y_T_placesOf.cls ≠ "java/lang/invoke/VarHandle" ∧ (parseMethodDescriptor y_T_placesOf.desc).map (fun d => d.parameters.length) = some 1 := by decide +kernel
abbrev y_R_init : MethodName := ⟨"DemandTerms$NeedRows", "<init>", "()V"⟩
theorem q_R_init : y_R_init.cls = "DemandTerms$NeedRows" ∧ y_R_init.cls ≠ "java/lang/invoke/MethodHandle" ∧ y_R_init.cls ≠ "java/lang/invoke/VarHandle" ∧ (parseMethodDescriptor y_R_init.desc).map (fun d => d.parameters.length) = some 0 := by decide +kernel
abbrev y_R_add : MethodName := ⟨"DemandTerms$NeedRows", "add", "(IIIJI)Z"⟩
theorem q_R_add : y_R_add.cls = "DemandTerms$NeedRows" ∧ y_R_add.cls ≠ "java/lang/invoke/MethodHandle" ∧ y_R_add.cls ≠ "java/lang/invoke/VarHandle" ∧ (parseMethodDescriptor y_R_add.desc).map (fun d => d.parameters.length) = some 5 := by decide +kernel
abbrev y_R_size : MethodName := ⟨"DemandTerms$NeedRows", "size", "()I"⟩
theorem q_R_size : y_R_size.cls = "DemandTerms$NeedRows" ∧ y_R_size.cls ≠ "java/lang/invoke/MethodHandle" ∧ y_R_size.cls ≠ "java/lang/invoke/VarHandle" ∧ (parseMethodDescriptor y_R_size.desc).map (fun d => d.parameters.length) = some 0 := by decide +kernel
abbrev y_R_isOf : MethodName := ⟨"DemandTerms$NeedRows", "isOf", "(III)Z"⟩
theorem q_R_isOf : y_R_isOf.cls = "DemandTerms$NeedRows" ∧ y_R_isOf.cls ≠ "java/lang/invoke/MethodHandle" ∧ y_R_isOf.cls ≠ "java/lang/invoke/VarHandle" ∧ (parseMethodDescriptor y_R_isOf.desc).map (fun d => d.parameters.length) = some 3 := by decide +kernel
abbrev y_R_has : MethodName := ⟨"DemandTerms$NeedRows", "has", "(I)Z"⟩
theorem q_R_has : y_R_has.cls = "DemandTerms$NeedRows" ∧ y_R_has.cls ≠ "java/lang/invoke/MethodHandle" ∧ y_R_has.cls ≠ "java/lang/invoke/VarHandle" ∧ (parseMethodDescriptor y_R_has.desc).map (fun d => d.parameters.length) = some 1 := by decide +kernel
abbrev y_R_versionOf : MethodName := ⟨"DemandTerms$NeedRows", "versionOf", "(I)I"⟩
theorem q_R_versionOf : y_R_versionOf.cls = "DemandTerms$NeedRows" ∧ y_R_versionOf.cls ≠ "java/lang/invoke/MethodHandle" ∧ y_R_versionOf.cls ≠ "java/lang/invoke/VarHandle" ∧ (parseMethodDescriptor y_R_versionOf.desc).map (fun d => d.parameters.length) = some 1 := by decide +kernel
abbrev y_R_alike : MethodName := ⟨"DemandTerms$NeedRows", "alike", "(II)Z"⟩
theorem q_R_alike : y_R_alike.cls = "DemandTerms$NeedRows" ∧ y_R_alike.cls ≠ "java/lang/invoke/MethodHandle" ∧ y_R_alike.cls ≠ "java/lang/invoke/VarHandle" ∧ (parseMethodDescriptor y_R_alike.desc).map (fun d => d.parameters.length) = some 2 := by decide +kernel
abbrev y_R_versionsLike : MethodName := ⟨"DemandTerms$NeedRows", "versionsLike", "(I)J"⟩
theorem q_R_versionsLike : y_R_versionsLike.cls = "DemandTerms$NeedRows" ∧ y_R_versionsLike.cls ≠ "java/lang/invoke/MethodHandle" ∧ y_R_versionsLike.cls ≠ "java/lang/invoke/VarHandle" ∧ (parseMethodDescriptor y_R_versionsLike.desc).map (fun d => d.parameters.length) = some 1 := by decide +kernel
abbrev y_R_nameOf : MethodName := ⟨"DemandTerms$NeedRows", "nameOf", "(I)I"⟩
theorem q_R_nameOf : y_R_nameOf.cls = "DemandTerms$NeedRows" ∧ y_R_nameOf.cls ≠ "java/lang/invoke/MethodHandle" ∧ y_R_nameOf.cls ≠ "java/lang/invoke/VarHandle" ∧ (parseMethodDescriptor y_R_nameOf.desc).map (fun d => d.parameters.length) = some 1 := by decide +kernel
abbrev y_R_otherOf : MethodName := ⟨"DemandTerms$NeedRows", "otherOf", "(I)I"⟩
theorem q_R_otherOf : y_R_otherOf.cls = "DemandTerms$NeedRows" ∧ y_R_otherOf.cls ≠ "java/lang/invoke/MethodHandle" ∧ y_R_otherOf.cls ≠ "java/lang/invoke/VarHandle" ∧ (parseMethodDescriptor y_R_otherOf.desc).map (fun d => d.parameters.length) = some 1 := by decide +kernel
abbrev y_R_neededOf : MethodName := ⟨"DemandTerms$NeedRows", "neededOf", "(I)J"⟩
theorem q_R_neededOf : y_R_neededOf.cls = "DemandTerms$NeedRows" ∧ y_R_neededOf.cls ≠ "java/lang/invoke/MethodHandle" ∧ y_R_neededOf.cls ≠ "java/lang/invoke/VarHandle" ∧ (parseMethodDescriptor y_R_neededOf.desc).map (fun d => d.parameters.length) = some 1 := by decide +kernel
abbrev y_C_init : MethodName := ⟨"DemandTerms$Clashes", "<init>", "()V"⟩
theorem q_C_init : y_C_init.cls = "DemandTerms$Clashes" ∧ y_C_init.cls ≠ "java/lang/invoke/MethodHandle" ∧ y_C_init.cls ≠ "java/lang/invoke/VarHandle" ∧ (parseMethodDescriptor y_C_init.desc).map (fun d => d.parameters.length) = some 0 := by decide +kernel
abbrev y_C_size : MethodName := ⟨"DemandTerms$Clashes", "size", "()I"⟩
theorem q_C_size : y_C_size.cls = "DemandTerms$Clashes" ∧ y_C_size.cls ≠ "java/lang/invoke/MethodHandle" ∧ y_C_size.cls ≠ "java/lang/invoke/VarHandle" ∧ (parseMethodDescriptor y_C_size.desc).map (fun d => d.parameters.length) = some 0 := by decide +kernel
abbrev y_C_sourceOf : MethodName := ⟨"DemandTerms$Clashes", "sourceOf", "(I)I"⟩
theorem q_C_sourceOf : y_C_sourceOf.cls = "DemandTerms$Clashes" ∧ y_C_sourceOf.cls ≠ "java/lang/invoke/MethodHandle" ∧ y_C_sourceOf.cls ≠ "java/lang/invoke/VarHandle" ∧ (parseMethodDescriptor y_C_sourceOf.desc).map (fun d => d.parameters.length) = some 1 := by decide +kernel
abbrev y_C_has : MethodName := ⟨"DemandTerms$Clashes", "has", "(I)Z"⟩
theorem q_C_has : y_C_has.cls = "DemandTerms$Clashes" ∧ y_C_has.cls ≠ "java/lang/invoke/MethodHandle" ∧ y_C_has.cls ≠ "java/lang/invoke/VarHandle" ∧ (parseMethodDescriptor y_C_has.desc).map (fun d => d.parameters.length) = some 1 := by decide +kernel
abbrev y_C_runOf : MethodName := ⟨"DemandTerms$Clashes", "runOf", "(I)J"⟩
theorem q_C_runOf : y_C_runOf.cls = "DemandTerms$Clashes" ∧ y_C_runOf.cls ≠ "java/lang/invoke/MethodHandle" ∧ y_C_runOf.cls ≠ "java/lang/invoke/VarHandle" ∧ (parseMethodDescriptor y_C_runOf.desc).map (fun d => d.parameters.length) = some 1 := by decide +kernel
abbrev y_C_add : MethodName := ⟨"DemandTerms$Clashes", "add", "(IJ)I"⟩
theorem q_C_add : y_C_add.cls = "DemandTerms$Clashes" ∧ y_C_add.cls ≠ "java/lang/invoke/MethodHandle" ∧ y_C_add.cls ≠ "java/lang/invoke/VarHandle" ∧ (parseMethodDescriptor y_C_add.desc).map (fun d => d.parameters.length) = some 2 := by decide +kernel
abbrev y_C_put : MethodName := ⟨"DemandTerms$Clashes", "put", "(IIJ)V"⟩
theorem q_C_put : y_C_put.cls = "DemandTerms$Clashes" ∧ y_C_put.cls ≠ "java/lang/invoke/MethodHandle" ∧ y_C_put.cls ≠ "java/lang/invoke/VarHandle" ∧ (parseMethodDescriptor y_C_put.desc).map (fun d => d.parameters.length) = some 3 := by decide +kernel
abbrev y_C_cutTo : MethodName := ⟨"DemandTerms$Clashes", "cutTo", "(I)V"⟩
theorem q_C_cutTo : y_C_cutTo.cls = "DemandTerms$Clashes" ∧ y_C_cutTo.cls ≠ "java/lang/invoke/MethodHandle" ∧ y_C_cutTo.cls ≠ "java/lang/invoke/VarHandle" ∧ (parseMethodDescriptor y_C_cutTo.desc).map (fun d => d.parameters.length) = some 1 := by decide +kernel
abbrev y_C_holds : MethodName := ⟨"DemandTerms$Clashes", "holds", "(II)Z"⟩
theorem q_C_holds : y_C_holds.cls = "DemandTerms$Clashes" ∧ y_C_holds.cls ≠ "java/lang/invoke/MethodHandle" ∧ y_C_holds.cls ≠ "java/lang/invoke/VarHandle" ∧ (parseMethodDescriptor y_C_holds.desc).map (fun d => d.parameters.length) = some 2 := by decide +kernel
abbrev y_C_placesOf : MethodName := ⟨"DemandTerms$Clashes", "placesOf", "(II)J"⟩
theorem q_C_placesOf : y_C_placesOf.cls = "DemandTerms$Clashes" ∧ y_C_placesOf.cls ≠ "java/lang/invoke/MethodHandle" ∧ y_C_placesOf.cls ≠ "java/lang/invoke/VarHandle" ∧ (parseMethodDescriptor y_C_placesOf.desc).map (fun d => d.parameters.length) = some 2 := by decide +kernel
abbrev y_C_partsOf : MethodName := ⟨"DemandTerms$Clashes", "partsOf", "(I)I"⟩
theorem q_C_partsOf : y_C_partsOf.cls = "DemandTerms$Clashes" ∧ y_C_partsOf.cls ≠ "java/lang/invoke/MethodHandle" ∧ y_C_partsOf.cls ≠ "java/lang/invoke/VarHandle" ∧ (parseMethodDescriptor y_C_partsOf.desc).map (fun d => d.parameters.length) = some 1 := by decide +kernel
abbrev y_C_nameAt : MethodName := ⟨"DemandTerms$Clashes", "nameAt", "(II)I"⟩
theorem q_C_nameAt : y_C_nameAt.cls = "DemandTerms$Clashes" ∧ y_C_nameAt.cls ≠ "java/lang/invoke/MethodHandle" ∧ y_C_nameAt.cls ≠ "java/lang/invoke/VarHandle" ∧ (parseMethodDescriptor y_C_nameAt.desc).map (fun d => d.parameters.length) = some 2 := by decide +kernel
abbrev y_C_indexOf : MethodName := ⟨"DemandTerms$Clashes", "indexOf", "(II)I"⟩
theorem q_C_indexOf : y_C_indexOf.cls = "DemandTerms$Clashes" ∧ y_C_indexOf.cls ≠ "java/lang/invoke/MethodHandle" ∧ y_C_indexOf.cls ≠ "java/lang/invoke/VarHandle" ∧ (parseMethodDescriptor y_C_indexOf.desc).map (fun d => d.parameters.length) = some 2 := by decide +kernel
abbrev y_G_init : MethodName := ⟨"DemandTerms$Page", "<init>", "()V"⟩
theorem q_G_init : y_G_init.cls = "DemandTerms$Page" ∧ y_G_init.cls ≠ "java/lang/invoke/MethodHandle" ∧ y_G_init.cls ≠ "java/lang/invoke/VarHandle" ∧ (parseMethodDescriptor y_G_init.desc).map (fun d => d.parameters.length) = some 0 := by decide +kernel
abbrev y_G_clear : MethodName := ⟨"DemandTerms$Page", "clear", "()V"⟩
theorem q_G_clear : y_G_clear.cls = "DemandTerms$Page" ∧ y_G_clear.cls ≠ "java/lang/invoke/MethodHandle" ∧ y_G_clear.cls ≠ "java/lang/invoke/VarHandle" ∧ (parseMethodDescriptor y_G_clear.desc).map (fun d => d.parameters.length) = some 0 := by decide +kernel
abbrev y_G_length : MethodName := ⟨"DemandTerms$Page", "length", "()I"⟩
theorem q_G_length : y_G_length.cls = "DemandTerms$Page" ∧ y_G_length.cls ≠ "java/lang/invoke/MethodHandle" ∧ y_G_length.cls ≠ "java/lang/invoke/VarHandle" ∧ (parseMethodDescriptor y_G_length.desc).map (fun d => d.parameters.length) = some 0 := by decide +kernel
abbrev y_G_put : MethodName := ⟨"DemandTerms$Page", "put", "(C)V"⟩
theorem q_G_put : y_G_put.cls = "DemandTerms$Page" ∧ y_G_put.cls ≠ "java/lang/invoke/MethodHandle" ∧ y_G_put.cls ≠ "java/lang/invoke/VarHandle" ∧ (parseMethodDescriptor y_G_put.desc).map (fun d => d.parameters.length) = some 1 := by decide +kernel
abbrev y_G_putRuns : MethodName := ⟨"DemandTerms$Page", "putRuns", "(J)V"⟩
theorem q_G_putRuns : y_G_putRuns.cls = "DemandTerms$Page" ∧ y_G_putRuns.cls ≠ "java/lang/invoke/MethodHandle" ∧ y_G_putRuns.cls ≠ "java/lang/invoke/VarHandle" ∧ (parseMethodDescriptor y_G_putRuns.desc).map (fun d => d.parameters.length) = some 1 := by decide +kernel
abbrev y_G_putNumber : MethodName := ⟨"DemandTerms$Page", "putNumber", "(I)V"⟩
theorem q_G_putNumber : y_G_putNumber.cls = "DemandTerms$Page" ∧ y_G_putNumber.cls ≠ "java/lang/invoke/MethodHandle" ∧ y_G_putNumber.cls ≠ "java/lang/invoke/VarHandle" ∧ (parseMethodDescriptor y_G_putNumber.desc).map (fun d => d.parameters.length) = some 1 := by decide +kernel
abbrev y_G_signAt : MethodName := ⟨"DemandTerms$Page", "signAt", "(I)I"⟩
theorem q_G_signAt : y_G_signAt.cls = "DemandTerms$Page" ∧ y_G_signAt.cls ≠ "java/lang/invoke/MethodHandle" ∧ y_G_signAt.cls ≠ "java/lang/invoke/VarHandle" ∧ (parseMethodDescriptor y_G_signAt.desc).map (fun d => d.parameters.length) = some 1 := by decide +kernel
abbrev y_JL_bitCount : MethodName := ⟨"java/lang/Long", "bitCount", "(J)I"⟩
theorem q_JL_bitCount : y_JL_bitCount.cls = "java/lang/Long" ∧ y_JL_bitCount.cls ≠ "java/lang/invoke/MethodHandle" ∧ y_JL_bitCount.cls ≠ "java/lang/invoke/VarHandle" ∧ (parseMethodDescriptor y_JL_bitCount.desc).map (fun d => d.parameters.length) = some 1 := by decide +kernel
abbrev y_JI_bitCount : MethodName := ⟨"java/lang/Integer", "bitCount", "(I)I"⟩
theorem q_JI_bitCount : y_JI_bitCount.cls = "java/lang/Integer" ∧ y_JI_bitCount.cls ≠ "java/lang/invoke/MethodHandle" ∧ y_JI_bitCount.cls ≠ "java/lang/invoke/VarHandle" ∧ (parseMethodDescriptor y_JI_bitCount.desc).map (fun d => d.parameters.length) = some 1 := by decide +kernel
abbrev y_M_init : MethodName := ⟨"DemandTermsModel", "<init>", "()V"⟩
theorem q_M_init : y_M_init.cls = "DemandTermsModel" ∧ y_M_init.cls ≠ "java/lang/invoke/MethodHandle" ∧ y_M_init.cls ≠ "java/lang/invoke/VarHandle" ∧ (parseMethodDescriptor y_M_init.desc).map (fun d => d.parameters.length) = some 0 := by decide +kernel
abbrev y_M_versions : MethodName := ⟨"DemandTermsModel", "versions", "(I)I"⟩
theorem q_M_versions : y_M_versions.cls = "DemandTermsModel" ∧ y_M_versions.cls ≠ "java/lang/invoke/MethodHandle" ∧ y_M_versions.cls ≠ "java/lang/invoke/VarHandle" ∧ (parseMethodDescriptor y_M_versions.desc).map (fun d => d.parameters.length) = some 1 := by decide +kernel
abbrev y_M_full : MethodName := ⟨"DemandTermsModel", "full", "(I)V"⟩
theorem q_M_full : y_M_full.cls = "DemandTermsModel" ∧ y_M_full.cls ≠ "java/lang/invoke/MethodHandle" ∧ y_M_full.cls ≠ "java/lang/invoke/VarHandle" ∧ (parseMethodDescriptor y_M_full.desc).map (fun d => d.parameters.length) = some 1 := by decide +kernel
abbrev y_M_tell : MethodName := ⟨"DemandTermsModel", "tell", "(IIZ)V"⟩
theorem q_M_tell : y_M_tell.cls = "DemandTermsModel" ∧ y_M_tell.cls ≠ "java/lang/invoke/MethodHandle" ∧ y_M_tell.cls ≠ "java/lang/invoke/VarHandle" ∧ (parseMethodDescriptor y_M_tell.desc).map (fun d => d.parameters.length) = some 3 := by decide +kernel
abbrev y_M_term : MethodName := ⟨"DemandTermsModel", "term", "(IJZ)I"⟩
theorem q_M_term : y_M_term.cls = "DemandTermsModel" ∧ y_M_term.cls ≠ "java/lang/invoke/MethodHandle" ∧ y_M_term.cls ≠ "java/lang/invoke/VarHandle" ∧ (parseMethodDescriptor y_M_term.desc).map (fun d => d.parameters.length) = some 3 := by decide +kernel
abbrev y_M_isName : MethodName := ⟨"DemandTermsModel", "isName", "(I)Z"⟩
theorem q_M_isName : y_M_isName.cls = "DemandTermsModel" ∧ y_M_isName.cls ≠ "java/lang/invoke/MethodHandle" ∧ y_M_isName.cls ≠ "java/lang/invoke/VarHandle" ∧ (parseMethodDescriptor y_M_isName.desc).map (fun d => d.parameters.length) = some 1 := by decide +kernel
abbrev y_M_make : MethodName := ⟨"DemandTermsModel", "make", "(IIJZ)V"⟩
theorem q_M_make : y_M_make.cls = "DemandTermsModel" ∧ y_M_make.cls ≠ "java/lang/invoke/MethodHandle" ∧ y_M_make.cls ≠ "java/lang/invoke/VarHandle" ∧ (parseMethodDescriptor y_M_make.desc).map (fun d => d.parameters.length) = some 4 := by decide +kernel
abbrev y_M_both : MethodName := ⟨"DemandTermsModel", "both", "(IIZ)I"⟩
theorem q_M_both : y_M_both.cls = "DemandTermsModel" ∧ y_M_both.cls ≠ "java/lang/invoke/MethodHandle" ∧ y_M_both.cls ≠ "java/lang/invoke/VarHandle" ∧ (parseMethodDescriptor y_M_both.desc).map (fun d => d.parameters.length) = some 3 := by decide +kernel
abbrev y_M_isTerm : MethodName := ⟨"DemandTermsModel", "isTerm", "(I)Z"⟩
theorem q_M_isTerm : y_M_isTerm.cls = "DemandTermsModel" ∧ y_M_isTerm.cls ≠ "java/lang/invoke/MethodHandle" ∧ y_M_isTerm.cls ≠ "java/lang/invoke/VarHandle" ∧ (parseMethodDescriptor y_M_isTerm.desc).map (fun d => d.parameters.length) = some 1 := by decide +kernel
abbrev y_M_join : MethodName := ⟨"DemandTermsModel", "join", "(IIIZ)V"⟩
theorem q_M_join : y_M_join.cls = "DemandTermsModel" ∧ y_M_join.cls ≠ "java/lang/invoke/MethodHandle" ∧ y_M_join.cls ≠ "java/lang/invoke/VarHandle" ∧ (parseMethodDescriptor y_M_join.desc).map (fun d => d.parameters.length) = some 4 := by decide +kernel
abbrev y_M_isSaid : MethodName := ⟨"DemandTermsModel", "isSaid", "(II)Z"⟩
theorem q_M_isSaid : y_M_isSaid.cls = "DemandTermsModel" ∧ y_M_isSaid.cls ≠ "java/lang/invoke/MethodHandle" ∧ y_M_isSaid.cls ≠ "java/lang/invoke/VarHandle" ∧ (parseMethodDescriptor y_M_isSaid.desc).map (fun d => d.parameters.length) = some 2 := by decide +kernel
abbrev y_M_relate : MethodName := ⟨"DemandTermsModel", "relate", "(II)I"⟩
theorem q_M_relate : y_M_relate.cls = "DemandTermsModel" ∧ y_M_relate.cls ≠ "java/lang/invoke/MethodHandle" ∧ y_M_relate.cls ≠ "java/lang/invoke/VarHandle" ∧ (parseMethodDescriptor y_M_relate.desc).map (fun d => d.parameters.length) = some 2 := by decide +kernel
abbrev y_M_relation : MethodName := ⟨"DemandTermsModel", "relation", "(II)I"⟩
theorem q_M_relation : y_M_relation.cls = "DemandTermsModel" ∧ y_M_relation.cls ≠ "java/lang/invoke/MethodHandle" ∧ y_M_relation.cls ≠ "java/lang/invoke/VarHandle" ∧ (parseMethodDescriptor y_M_relation.desc).map (fun d => d.parameters.length) = some 2 := by decide +kernel
abbrev y_M_about : MethodName := ⟨"DemandTermsModel", "about", "(II)I"⟩
theorem q_M_about : y_M_about.cls = "DemandTermsModel" ∧ y_M_about.cls ≠ "java/lang/invoke/MethodHandle" ∧ y_M_about.cls ≠ "java/lang/invoke/VarHandle" ∧ (parseMethodDescriptor y_M_about.desc).map (fun d => d.parameters.length) = some 2 := by decide +kernel
abbrev y_M_aboutOf : MethodName := ⟨"DemandTermsModel", "aboutOf", "(II)I"⟩
theorem q_M_aboutOf : y_M_aboutOf.cls = "DemandTermsModel" ∧ y_M_aboutOf.cls ≠ "java/lang/invoke/MethodHandle" ∧ y_M_aboutOf.cls ≠ "java/lang/invoke/VarHandle" ∧ (parseMethodDescriptor y_M_aboutOf.desc).map (fun d => d.parameters.length) = some 2 := by decide +kernel
abbrev y_M_isListed : MethodName := ⟨"DemandTermsModel", "isListed", "(II)Z"⟩
theorem q_M_isListed : y_M_isListed.cls = "DemandTermsModel" ∧ y_M_isListed.cls ≠ "java/lang/invoke/MethodHandle" ∧ y_M_isListed.cls ≠ "java/lang/invoke/VarHandle" ∧ (parseMethodDescriptor y_M_isListed.desc).map (fun d => d.parameters.length) = some 2 := by decide +kernel
abbrev y_M_isWanted : MethodName := ⟨"DemandTermsModel", "isWanted", "(I)Z"⟩
theorem q_M_isWanted : y_M_isWanted.cls = "DemandTermsModel" ∧ y_M_isWanted.cls ≠ "java/lang/invoke/MethodHandle" ∧ y_M_isWanted.cls ≠ "java/lang/invoke/VarHandle" ∧ (parseMethodDescriptor y_M_isWanted.desc).map (fun d => d.parameters.length) = some 1 := by decide +kernel
abbrev y_M_set : MethodName := ⟨"DemandTermsModel", "set", "(I)J"⟩
theorem q_M_set : y_M_set.cls = "DemandTermsModel" ∧ y_M_set.cls ≠ "java/lang/invoke/MethodHandle" ∧ y_M_set.cls ≠ "java/lang/invoke/VarHandle" ∧ (parseMethodDescriptor y_M_set.desc).map (fun d => d.parameters.length) = some 1 := by decide +kernel
abbrev y_M_setOf : MethodName := ⟨"DemandTermsModel", "setOf", "(I)J"⟩
theorem q_M_setOf : y_M_setOf.cls = "DemandTermsModel" ∧ y_M_setOf.cls ≠ "java/lang/invoke/MethodHandle" ∧ y_M_setOf.cls ≠ "java/lang/invoke/VarHandle" ∧ (parseMethodDescriptor y_M_setOf.desc).map (fun d => d.parameters.length) = some 1 := by decide +kernel
abbrev y_M_needs : MethodName := ⟨"DemandTermsModel", "needs", "(IIIJI)Z"⟩
theorem q_M_needs : y_M_needs.cls = "DemandTermsModel" ∧ y_M_needs.cls ≠ "java/lang/invoke/MethodHandle" ∧ y_M_needs.cls ≠ "java/lang/invoke/VarHandle" ∧ (parseMethodDescriptor y_M_needs.desc).map (fun d => d.parameters.length) = some 5 := by decide +kernel
abbrev y_M_there : MethodName := ⟨"DemandTermsModel", "there", "(IJ)J"⟩
theorem q_M_there : y_M_there.cls = "DemandTermsModel" ∧ y_M_there.cls ≠ "java/lang/invoke/MethodHandle" ∧ y_M_there.cls ≠ "java/lang/invoke/VarHandle" ∧ (parseMethodDescriptor y_M_there.desc).map (fun d => d.parameters.length) = some 2 := by decide +kernel
abbrev y_M_derive : MethodName := ⟨"DemandTermsModel", "derive", "(II)I"⟩
theorem q_M_derive : y_M_derive.cls = "DemandTermsModel" ∧ y_M_derive.cls ≠ "java/lang/invoke/MethodHandle" ∧ y_M_derive.cls ≠ "java/lang/invoke/VarHandle" ∧ (parseMethodDescriptor y_M_derive.desc).map (fun d => d.parameters.length) = some 2 := by decide +kernel
abbrev y_M_isDerived : MethodName := ⟨"DemandTermsModel", "isDerived", "(II)Z"⟩
theorem q_M_isDerived : y_M_isDerived.cls = "DemandTermsModel" ∧ y_M_isDerived.cls ≠ "java/lang/invoke/MethodHandle" ∧ y_M_isDerived.cls ≠ "java/lang/invoke/VarHandle" ∧ (parseMethodDescriptor y_M_isDerived.desc).map (fun d => d.parameters.length) = some 2 := by decide +kernel
abbrev y_M_deriveRow : MethodName := ⟨"DemandTermsModel", "deriveRow", "(I)V"⟩
theorem q_M_deriveRow : y_M_deriveRow.cls = "DemandTermsModel" ∧ y_M_deriveRow.cls ≠ "java/lang/invoke/MethodHandle" ∧ y_M_deriveRow.cls ≠ "java/lang/invoke/VarHandle" ∧ (parseMethodDescriptor y_M_deriveRow.desc).map (fun d => d.parameters.length) = some 1 := by decide +kernel
abbrev y_M_begin : MethodName := ⟨"DemandTermsModel", "begin", "()V"⟩
theorem q_M_begin : y_M_begin.cls = "DemandTermsModel" ∧ y_M_begin.cls ≠ "java/lang/invoke/MethodHandle" ∧ y_M_begin.cls ≠ "java/lang/invoke/VarHandle" ∧ (parseMethodDescriptor y_M_begin.desc).map (fun d => d.parameters.length) = some 0 := by decide +kernel
abbrev y_M_has : MethodName := ⟨"DemandTermsModel", "has", "(II)Z"⟩
theorem q_M_has : y_M_has.cls = "DemandTermsModel" ∧ y_M_has.cls ≠ "java/lang/invoke/MethodHandle" ∧ y_M_has.cls ≠ "java/lang/invoke/VarHandle" ∧ (parseMethodDescriptor y_M_has.desc).map (fun d => d.parameters.length) = some 2 := by decide +kernel
abbrev y_M_isAlike : MethodName := ⟨"DemandTermsModel", "isAlike", "(III)Z"⟩
theorem q_M_isAlike : y_M_isAlike.cls = "DemandTermsModel" ∧ y_M_isAlike.cls ≠ "java/lang/invoke/MethodHandle" ∧ y_M_isAlike.cls ≠ "java/lang/invoke/VarHandle" ∧ (parseMethodDescriptor y_M_isAlike.desc).map (fun d => d.parameters.length) = some 3 := by decide +kernel
abbrev y_M_addPart : MethodName := ⟨"DemandTermsModel", "addPart", "(I)V"⟩
theorem q_M_addPart : y_M_addPart.cls = "DemandTermsModel" ∧ y_M_addPart.cls ≠ "java/lang/invoke/MethodHandle" ∧ y_M_addPart.cls ≠ "java/lang/invoke/VarHandle" ∧ (parseMethodDescriptor y_M_addPart.desc).map (fun d => d.parameters.length) = some 1 := by decide +kernel
abbrev y_M_isFull : MethodName := ⟨"DemandTermsModel", "isFull", "(I)Z"⟩
theorem q_M_isFull : y_M_isFull.cls = "DemandTermsModel" ∧ y_M_isFull.cls ≠ "java/lang/invoke/MethodHandle" ∧ y_M_isFull.cls ≠ "java/lang/invoke/VarHandle" ∧ (parseMethodDescriptor y_M_isFull.desc).map (fun d => d.parameters.length) = some 1 := by decide +kernel
abbrev y_M_copy : MethodName := ⟨"DemandTermsModel", "copy", "(II)V"⟩
theorem q_M_copy : y_M_copy.cls = "DemandTermsModel" ∧ y_M_copy.cls ≠ "java/lang/invoke/MethodHandle" ∧ y_M_copy.cls ≠ "java/lang/invoke/VarHandle" ∧ (parseMethodDescriptor y_M_copy.desc).map (fun d => d.parameters.length) = some 2 := by decide +kernel
abbrev y_M_bar : MethodName := ⟨"DemandTermsModel", "bar", "(IJZ)I"⟩
theorem q_M_bar : y_M_bar.cls = "DemandTermsModel" ∧ y_M_bar.cls ≠ "java/lang/invoke/MethodHandle" ∧ y_M_bar.cls ≠ "java/lang/invoke/VarHandle" ∧ (parseMethodDescriptor y_M_bar.desc).map (fun d => d.parameters.length) = some 3 := by decide +kernel
abbrev y_M_learn : MethodName := ⟨"DemandTermsModel", "learn", "(III)I"⟩
theorem q_M_learn : y_M_learn.cls = "DemandTermsModel" ∧ y_M_learn.cls ≠ "java/lang/invoke/MethodHandle" ∧ y_M_learn.cls ≠ "java/lang/invoke/VarHandle" ∧ (parseMethodDescriptor y_M_learn.desc).map (fun d => d.parameters.length) = some 3 := by decide +kernel
abbrev y_M_isBar : MethodName := ⟨"DemandTermsModel", "isBar", "(I)Z"⟩
theorem q_M_isBar : y_M_isBar.cls = "DemandTermsModel" ∧ y_M_isBar.cls ≠ "java/lang/invoke/MethodHandle" ∧ y_M_isBar.cls ≠ "java/lang/invoke/VarHandle" ∧ (parseMethodDescriptor y_M_isBar.desc).map (fun d => d.parameters.length) = some 1 := by decide +kernel
abbrev y_M_partOf : MethodName := ⟨"DemandTermsModel", "partOf", "(II)I"⟩
theorem q_M_partOf : y_M_partOf.cls = "DemandTermsModel" ∧ y_M_partOf.cls ≠ "java/lang/invoke/MethodHandle" ∧ y_M_partOf.cls ≠ "java/lang/invoke/VarHandle" ∧ (parseMethodDescriptor y_M_partOf.desc).map (fun d => d.parameters.length) = some 2 := by decide +kernel
abbrev y_M_count : MethodName := ⟨"DemandTermsModel", "count", "()I"⟩
theorem q_M_count : y_M_count.cls = "DemandTermsModel" ∧ y_M_count.cls ≠ "java/lang/invoke/MethodHandle" ∧ y_M_count.cls ≠ "java/lang/invoke/VarHandle" ∧ (parseMethodDescriptor y_M_count.desc).map (fun d => d.parameters.length) = some 0 := by decide +kernel
abbrev y_M_terms : MethodName := ⟨"DemandTermsModel", "terms", "(I)I"⟩
theorem q_M_terms : y_M_terms.cls = "DemandTermsModel" ∧ y_M_terms.cls ≠ "java/lang/invoke/MethodHandle" ∧ y_M_terms.cls ≠ "java/lang/invoke/VarHandle" ∧ (parseMethodDescriptor y_M_terms.desc).map (fun d => d.parameters.length) = some 1 := by decide +kernel
abbrev y_M_part : MethodName := ⟨"DemandTermsModel", "part", "(III)I"⟩
theorem q_M_part : y_M_part.cls = "DemandTermsModel" ∧ y_M_part.cls ≠ "java/lang/invoke/MethodHandle" ∧ y_M_part.cls ≠ "java/lang/invoke/VarHandle" ∧ (parseMethodDescriptor y_M_part.desc).map (fun d => d.parameters.length) = some 3 := by decide +kernel
abbrev y_M_isPart : MethodName := ⟨"DemandTermsModel", "isPart", "(II)Z"⟩
theorem q_M_isPart : y_M_isPart.cls = "DemandTermsModel" ∧ y_M_isPart.cls ≠ "java/lang/invoke/MethodHandle" ∧ y_M_isPart.cls ≠ "java/lang/invoke/VarHandle" ∧ (parseMethodDescriptor y_M_isPart.desc).map (fun d => d.parameters.length) = some 2 := by decide +kernel
abbrev y_M_partSet : MethodName := ⟨"DemandTermsModel", "partSet", "(II)J"⟩
theorem q_M_partSet : y_M_partSet.cls = "DemandTermsModel" ∧ y_M_partSet.cls ≠ "java/lang/invoke/MethodHandle" ∧ y_M_partSet.cls ≠ "java/lang/invoke/VarHandle" ∧ (parseMethodDescriptor y_M_partSet.desc).map (fun d => d.parameters.length) = some 2 := by decide +kernel
abbrev y_M_choose : MethodName := ⟨"DemandTermsModel", "choose", "(I)Z"⟩
theorem q_M_choose : y_M_choose.cls = "DemandTermsModel" ∧ y_M_choose.cls ≠ "java/lang/invoke/MethodHandle" ∧ y_M_choose.cls ≠ "java/lang/invoke/VarHandle" ∧ (parseMethodDescriptor y_M_choose.desc).map (fun d => d.parameters.length) = some 1 := by decide +kernel
abbrev y_M_forget : MethodName := ⟨"DemandTermsModel", "forget", "()V"⟩
theorem q_M_forget : y_M_forget.cls = "DemandTermsModel" ∧ y_M_forget.cls ≠ "java/lang/invoke/MethodHandle" ∧ y_M_forget.cls ≠ "java/lang/invoke/VarHandle" ∧ (parseMethodDescriptor y_M_forget.desc).map (fun d => d.parameters.length) = some 0 := by decide +kernel
abbrev y_M_state : MethodName := ⟨"DemandTermsModel", "state", "(I)I"⟩
theorem q_M_state : y_M_state.cls = "DemandTermsModel" ∧ y_M_state.cls ≠ "java/lang/invoke/MethodHandle" ∧ y_M_state.cls ≠ "java/lang/invoke/VarHandle" ∧ (parseMethodDescriptor y_M_state.desc).map (fun d => d.parameters.length) = some 1 := by decide +kernel
abbrev y_M_look : MethodName := ⟨"DemandTermsModel", "look", "(I)I"⟩
theorem q_M_look : y_M_look.cls = "DemandTermsModel" ∧ y_M_look.cls ≠ "java/lang/invoke/MethodHandle" ∧ y_M_look.cls ≠ "java/lang/invoke/VarHandle" ∧ (parseMethodDescriptor y_M_look.desc).map (fun d => d.parameters.length) = some 1 := by decide +kernel
abbrev y_M_counted : MethodName := ⟨"DemandTermsModel", "counted", "(II)I"⟩
theorem q_M_counted : y_M_counted.cls = "DemandTermsModel" ∧ y_M_counted.cls ≠ "java/lang/invoke/MethodHandle" ∧ y_M_counted.cls ≠ "java/lang/invoke/VarHandle" ∧ (parseMethodDescriptor y_M_counted.desc).map (fun d => d.parameters.length) = some 2 := by decide +kernel
abbrev y_M_stateOf : MethodName := ⟨"DemandTermsModel", "stateOf", "(I)I"⟩
theorem q_M_stateOf : y_M_stateOf.cls = "DemandTermsModel" ∧ y_M_stateOf.cls ≠ "java/lang/invoke/MethodHandle" ∧ y_M_stateOf.cls ≠ "java/lang/invoke/VarHandle" ∧ (parseMethodDescriptor y_M_stateOf.desc).map (fun d => d.parameters.length) = some 1 := by decide +kernel
abbrev y_M_forced : MethodName := ⟨"DemandTermsModel", "forced", "(I)I"⟩
theorem q_M_forced : y_M_forced.cls = "DemandTermsModel" ∧ y_M_forced.cls ≠ "java/lang/invoke/MethodHandle" ∧ y_M_forced.cls ≠ "java/lang/invoke/VarHandle" ∧ (parseMethodDescriptor y_M_forced.desc).map (fun d => d.parameters.length) = some 1 := by decide +kernel
abbrev y_M_openPart : MethodName := ⟨"DemandTermsModel", "openPart", "(I)I"⟩
theorem q_M_openPart : y_M_openPart.cls = "DemandTermsModel" ∧ y_M_openPart.cls ≠ "java/lang/invoke/MethodHandle" ∧ y_M_openPart.cls ≠ "java/lang/invoke/VarHandle" ∧ (parseMethodDescriptor y_M_openPart.desc).map (fun d => d.parameters.length) = some 1 := by decide +kernel
abbrev y_M_spread : MethodName := ⟨"DemandTermsModel", "spread", "()I"⟩
theorem q_M_spread : y_M_spread.cls = "DemandTermsModel" ∧ y_M_spread.cls ≠ "java/lang/invoke/MethodHandle" ∧ y_M_spread.cls ≠ "java/lang/invoke/VarHandle" ∧ (parseMethodDescriptor y_M_spread.desc).map (fun d => d.parameters.length) = some 0 := by decide +kernel
abbrev y_M_firstKept : MethodName := ⟨"DemandTermsModel", "firstKept", "()I"⟩
theorem q_M_firstKept : y_M_firstKept.cls = "DemandTermsModel" ∧ y_M_firstKept.cls ≠ "java/lang/invoke/MethodHandle" ∧ y_M_firstKept.cls ≠ "java/lang/invoke/VarHandle" ∧ (parseMethodDescriptor y_M_firstKept.desc).map (fun d => d.parameters.length) = some 0 := by decide +kernel
abbrev y_M_chosen : MethodName := ⟨"DemandTermsModel", "chosen", "(II)I"⟩
theorem q_M_chosen : y_M_chosen.cls = "DemandTermsModel" ∧ y_M_chosen.cls ≠ "java/lang/invoke/MethodHandle" ∧ y_M_chosen.cls ≠ "java/lang/invoke/VarHandle" ∧ (parseMethodDescriptor y_M_chosen.desc).map (fun d => d.parameters.length) = some 2 := by decide +kernel
abbrev y_M_chosenSet : MethodName := ⟨"DemandTermsModel", "chosenSet", "(I)J"⟩
theorem q_M_chosenSet : y_M_chosenSet.cls = "DemandTermsModel" ∧ y_M_chosenSet.cls ≠ "java/lang/invoke/MethodHandle" ∧ y_M_chosenSet.cls ≠ "java/lang/invoke/VarHandle" ∧ (parseMethodDescriptor y_M_chosenSet.desc).map (fun d => d.parameters.length) = some 1 := by decide +kernel
abbrev y_M_print : MethodName := ⟨"DemandTermsModel", "print", "(I)I"⟩
theorem q_M_print : y_M_print.cls = "DemandTermsModel" ∧ y_M_print.cls ≠ "java/lang/invoke/MethodHandle" ∧ y_M_print.cls ≠ "java/lang/invoke/VarHandle" ∧ (parseMethodDescriptor y_M_print.desc).map (fun d => d.parameters.length) = some 1 := by decide +kernel
abbrev y_M_put : MethodName := ⟨"DemandTermsModel", "put", "(I)V"⟩
theorem q_M_put : y_M_put.cls = "DemandTermsModel" ∧ y_M_put.cls ≠ "java/lang/invoke/MethodHandle" ∧ y_M_put.cls ≠ "java/lang/invoke/VarHandle" ∧ (parseMethodDescriptor y_M_put.desc).map (fun d => d.parameters.length) = some 1 := by decide +kernel
abbrev y_M_putTerm : MethodName := ⟨"DemandTermsModel", "putTerm", "(I)V"⟩
theorem q_M_putTerm : y_M_putTerm.cls = "DemandTermsModel" ∧ y_M_putTerm.cls ≠ "java/lang/invoke/MethodHandle" ∧ y_M_putTerm.cls ≠ "java/lang/invoke/VarHandle" ∧ (parseMethodDescriptor y_M_putTerm.desc).map (fun d => d.parameters.length) = some 1 := by decide +kernel
abbrev y_M_putNumber : MethodName := ⟨"DemandTermsModel", "putNumber", "(I)V"⟩
theorem q_M_putNumber : y_M_putNumber.cls = "DemandTermsModel" ∧ y_M_putNumber.cls ≠ "java/lang/invoke/MethodHandle" ∧ y_M_putNumber.cls ≠ "java/lang/invoke/VarHandle" ∧ (parseMethodDescriptor y_M_putNumber.desc).map (fun d => d.parameters.length) = some 1 := by decide +kernel
abbrev y_M_at : MethodName := ⟨"DemandTermsModel", "at", "(I)I"⟩
theorem q_M_at : y_M_at.cls = "DemandTermsModel" ∧ y_M_at.cls ≠ "java/lang/invoke/MethodHandle" ∧ y_M_at.cls ≠ "java/lang/invoke/VarHandle" ∧ (parseMethodDescriptor y_M_at.desc).map (fun d => d.parameters.length) = some 1 := by decide +kernel
end
section
theorem k0 : (Jvm.Cond.initialized "DemandTermsLaw") ∈ AW := AW_t 0 (by decide +kernel) rfl
theorem k1 : (Jvm.Cond.initialized "DemandTerms") ∈ AW := AW_t 1 (by decide +kernel) rfl
theorem k2 : (Jvm.Cond.initialized "DemandTerms$Names") ∈ AW := AW_t 2 (by decide +kernel) rfl
theorem k3 : (Jvm.Cond.initialized "DemandTerms$TermTable") ∈ AW := AW_t 3 (by decide +kernel) rfl
theorem k4 : (Jvm.Cond.initialized "DemandTerms$NeedRows") ∈ AW := AW_t 4 (by decide +kernel) rfl
theorem k5 : (Jvm.Cond.initialized "DemandTerms$Clashes") ∈ AW := AW_t 5 (by decide +kernel) rfl
theorem k6 : (Jvm.Cond.initialized "DemandTerms$Page") ∈ AW := AW_t 6 (by decide +kernel) rfl
theorem k7 : (Jvm.Cond.initialized "DemandTermsModel") ∈ AW := AW_t 7 (by decide +kernel) rfl
theorem k8 : (Jvm.Cond.initialized "java/lang/Long") ∈ AW := AW_t 8 (by decide +kernel) rfl
theorem k9 : (Jvm.Cond.initialized "java/lang/Integer") ∈ AW := AW_t 9 (by decide +kernel) rfl
theorem k10 : (Jvm.Cond.classLink "DemandTermsLaw" (7 : Nat) "DemandTerms") ∈ AW := AW_t 10 (by decide +kernel) rfl
theorem k11 : (Jvm.Cond.instantiable "DemandTerms" (6 : Nat)) ∈ AW := AW_t 11 (by decide +kernel) rfl
theorem k12 : (Jvm.Cond.methodLink "DemandTermsLaw" (9 : Nat) ({ cls := "DemandTerms", name := "<init>", desc := "()V" } : Jvm.MethodName)) ∈ AW := AW_t 12 (by decide +kernel) rfl
theorem k13 : (Jvm.Cond.instanceMethod ({ cls := "DemandTerms", name := "<init>", desc := "()V" } : Jvm.MethodName)) ∈ AW := AW_t 13 (by decide +kernel) rfl
set_option maxRecDepth 100000 in
theorem k14 : (Jvm.Cond.code ({ cls := "DemandTerms", name := "<init>", desc := "()V" } : Jvm.MethodName) prog_1_method_1_code (1 : Nat) (Option.none : Option Jvm.ClassFile.FieldType)) ∈ AW := AW_t 14 rfl rfl
theorem k15 : (Jvm.Cond.methodLink "DemandTerms" (3 : Nat) ({ cls := "java/lang/Object", name := "<init>", desc := "()V" } : Jvm.MethodName)) ∈ AW := AW_t 15 (by decide +kernel) rfl
theorem k16 : (Jvm.Cond.instanceMethod ({ cls := "java/lang/Object", name := "<init>", desc := "()V" } : Jvm.MethodName)) ∈ AW := AW_t 16 (by decide +kernel) rfl
set_option maxRecDepth 100000 in
theorem k17 : (Jvm.Cond.code ({ cls := "java/lang/Object", name := "<init>", desc := "()V" } : Jvm.MethodName) object_method_1_code (1 : Nat) (Option.none : Option Jvm.ClassFile.FieldType)) ∈ AW := AW_t 17 rfl rfl
theorem k18 : (Jvm.Cond.classLink "DemandTerms" (9 : Nat) "DemandTerms$Names") ∈ AW := AW_t 18 (by decide +kernel) rfl
theorem k19 : (Jvm.Cond.instantiable "DemandTerms$Names" (2 : Nat)) ∈ AW := AW_t 19 (by decide +kernel) rfl
theorem k21 : (Jvm.Cond.instanceMethod ({ cls := "DemandTerms$Names", name := "<init>", desc := "()V" } : Jvm.MethodName)) ∈ AW := AW_t 21 (by decide +kernel) rfl
set_option maxRecDepth 100000 in
theorem k22 : (Jvm.Cond.code ({ cls := "DemandTerms$Names", name := "<init>", desc := "()V" } : Jvm.MethodName) prog_3_method_1_code (1 : Nat) (Option.none : Option Jvm.ClassFile.FieldType)) ∈ AW := AW_t 22 rfl rfl
theorem k23 : (Jvm.Cond.methodLink "DemandTerms$Names" (3 : Nat) ({ cls := "java/lang/Object", name := "<init>", desc := "()V" } : Jvm.MethodName)) ∈ AW := AW_t 23 (by decide +kernel) rfl
theorem k24 : (Jvm.Cond.fieldLink "DemandTerms$Names" (9 : Nat) "DemandTerms$Names" "places" "[J") ∈ AW := AW_t 24 (by decide +kernel) rfl
theorem k25 : (Jvm.Cond.fieldLink "DemandTerms$Names" (15 : Nat) "DemandTerms$Names" "size" "I") ∈ AW := AW_t 25 (by decide +kernel) rfl
theorem k31 : (Jvm.Cond.arrayClass Jvm.ClassFile.FieldType.long) ∈ AW := AW_t 31 (by decide +kernel) rfl
theorem k32 : (Jvm.Cond.classLink "DemandTerms" (16 : Nat) "DemandTerms$TermTable") ∈ AW := AW_t 32 (by decide +kernel) rfl
theorem k33 : (Jvm.Cond.instantiable "DemandTerms$TermTable" (3 : Nat)) ∈ AW := AW_t 33 (by decide +kernel) rfl
theorem k35 : (Jvm.Cond.instanceMethod ({ cls := "DemandTerms$TermTable", name := "<init>", desc := "()V" } : Jvm.MethodName)) ∈ AW := AW_t 35 (by decide +kernel) rfl
set_option maxRecDepth 100000 in
theorem k36 : (Jvm.Cond.code ({ cls := "DemandTerms$TermTable", name := "<init>", desc := "()V" } : Jvm.MethodName) prog_6_method_1_code (1 : Nat) (Option.none : Option Jvm.ClassFile.FieldType)) ∈ AW := AW_t 36 rfl rfl
theorem k37 : (Jvm.Cond.methodLink "DemandTerms$TermTable" (3 : Nat) ({ cls := "java/lang/Object", name := "<init>", desc := "()V" } : Jvm.MethodName)) ∈ AW := AW_t 37 (by decide +kernel) rfl
theorem k38 : (Jvm.Cond.fieldLink "DemandTerms$TermTable" (9 : Nat) "DemandTerms$TermTable" "name" "[I") ∈ AW := AW_t 38 (by decide +kernel) rfl
theorem k39 : (Jvm.Cond.fieldLink "DemandTerms$TermTable" (15 : Nat) "DemandTerms$TermTable" "places" "[J") ∈ AW := AW_t 39 (by decide +kernel) rfl
theorem k40 : (Jvm.Cond.fieldLink "DemandTerms$TermTable" (19 : Nat) "DemandTerms$TermTable" "size" "I") ∈ AW := AW_t 40 (by decide +kernel) rfl
theorem k48 : (Jvm.Cond.arrayClass Jvm.ClassFile.FieldType.int) ∈ AW := AW_t 48 (by decide +kernel) rfl
theorem k49 : (Jvm.Cond.classLink "DemandTerms" (23 : Nat) "DemandTerms$NeedRows") ∈ AW := AW_t 49 (by decide +kernel) rfl
theorem k50 : (Jvm.Cond.instantiable "DemandTerms$NeedRows" (6 : Nat)) ∈ AW := AW_t 50 (by decide +kernel) rfl
theorem k52 : (Jvm.Cond.instanceMethod ({ cls := "DemandTerms$NeedRows", name := "<init>", desc := "()V" } : Jvm.MethodName)) ∈ AW := AW_t 52 (by decide +kernel) rfl
set_option maxRecDepth 100000 in
theorem k53 : (Jvm.Cond.code ({ cls := "DemandTerms$NeedRows", name := "<init>", desc := "()V" } : Jvm.MethodName) prog_4_method_1_code (1 : Nat) (Option.none : Option Jvm.ClassFile.FieldType)) ∈ AW := AW_t 53 rfl rfl
theorem k54 : (Jvm.Cond.methodLink "DemandTerms$NeedRows" (3 : Nat) ({ cls := "java/lang/Object", name := "<init>", desc := "()V" } : Jvm.MethodName)) ∈ AW := AW_t 54 (by decide +kernel) rfl
theorem k55 : (Jvm.Cond.fieldLink "DemandTerms$NeedRows" (9 : Nat) "DemandTerms$NeedRows" "name" "[I") ∈ AW := AW_t 55 (by decide +kernel) rfl
theorem k56 : (Jvm.Cond.fieldLink "DemandTerms$NeedRows" (15 : Nat) "DemandTerms$NeedRows" "version" "[I") ∈ AW := AW_t 56 (by decide +kernel) rfl
theorem k57 : (Jvm.Cond.fieldLink "DemandTerms$NeedRows" (18 : Nat) "DemandTerms$NeedRows" "other" "[I") ∈ AW := AW_t 57 (by decide +kernel) rfl
theorem k58 : (Jvm.Cond.fieldLink "DemandTerms$NeedRows" (21 : Nat) "DemandTerms$NeedRows" "needed" "[J") ∈ AW := AW_t 58 (by decide +kernel) rfl
theorem k59 : (Jvm.Cond.fieldLink "DemandTerms$NeedRows" (25 : Nat) "DemandTerms$NeedRows" "kind" "[I") ∈ AW := AW_t 59 (by decide +kernel) rfl
theorem k60 : (Jvm.Cond.fieldLink "DemandTerms$NeedRows" (28 : Nat) "DemandTerms$NeedRows" "size" "I") ∈ AW := AW_t 60 (by decide +kernel) rfl
theorem k74 : (Jvm.Cond.classLink "DemandTerms" (30 : Nat) "DemandTerms$Clashes") ∈ AW := AW_t 74 (by decide +kernel) rfl
theorem k75 : (Jvm.Cond.instantiable "DemandTerms$Clashes" (5 : Nat)) ∈ AW := AW_t 75 (by decide +kernel) rfl
theorem k77 : (Jvm.Cond.instanceMethod ({ cls := "DemandTerms$Clashes", name := "<init>", desc := "()V" } : Jvm.MethodName)) ∈ AW := AW_t 77 (by decide +kernel) rfl
set_option maxRecDepth 100000 in
theorem k78 : (Jvm.Cond.code ({ cls := "DemandTerms$Clashes", name := "<init>", desc := "()V" } : Jvm.MethodName) prog_2_method_1_code (1 : Nat) (Option.none : Option Jvm.ClassFile.FieldType)) ∈ AW := AW_t 78 rfl rfl
theorem k79 : (Jvm.Cond.methodLink "DemandTerms$Clashes" (3 : Nat) ({ cls := "java/lang/Object", name := "<init>", desc := "()V" } : Jvm.MethodName)) ∈ AW := AW_t 79 (by decide +kernel) rfl
theorem k80 : (Jvm.Cond.fieldLink "DemandTerms$Clashes" (9 : Nat) "DemandTerms$Clashes" "held" "[I") ∈ AW := AW_t 80 (by decide +kernel) rfl
theorem k81 : (Jvm.Cond.fieldLink "DemandTerms$Clashes" (15 : Nat) "DemandTerms$Clashes" "places" "[J") ∈ AW := AW_t 81 (by decide +kernel) rfl
theorem k82 : (Jvm.Cond.fieldLink "DemandTerms$Clashes" (19 : Nat) "DemandTerms$Clashes" "source" "[I") ∈ AW := AW_t 82 (by decide +kernel) rfl
theorem k83 : (Jvm.Cond.fieldLink "DemandTerms$Clashes" (22 : Nat) "DemandTerms$Clashes" "run" "[J") ∈ AW := AW_t 83 (by decide +kernel) rfl
theorem k84 : (Jvm.Cond.fieldLink "DemandTerms$Clashes" (25 : Nat) "DemandTerms$Clashes" "size" "I") ∈ AW := AW_t 84 (by decide +kernel) rfl
theorem k96 : (Jvm.Cond.classLink "DemandTerms" (41 : Nat) "DemandTerms$Page") ∈ AW := AW_t 96 (by decide +kernel) rfl
theorem k97 : (Jvm.Cond.instantiable "DemandTerms$Page" (2 : Nat)) ∈ AW := AW_t 97 (by decide +kernel) rfl
theorem k99 : (Jvm.Cond.instanceMethod ({ cls := "DemandTerms$Page", name := "<init>", desc := "()V" } : Jvm.MethodName)) ∈ AW := AW_t 99 (by decide +kernel) rfl
set_option maxRecDepth 100000 in
theorem k100 : (Jvm.Cond.code ({ cls := "DemandTerms$Page", name := "<init>", desc := "()V" } : Jvm.MethodName) prog_5_method_1_code (1 : Nat) (Option.none : Option Jvm.ClassFile.FieldType)) ∈ AW := AW_t 100 rfl rfl
theorem k101 : (Jvm.Cond.methodLink "DemandTerms$Page" (3 : Nat) ({ cls := "java/lang/Object", name := "<init>", desc := "()V" } : Jvm.MethodName)) ∈ AW := AW_t 101 (by decide +kernel) rfl
theorem k102 : (Jvm.Cond.fieldLink "DemandTerms$Page" (9 : Nat) "DemandTerms$Page" "signs" "[C") ∈ AW := AW_t 102 (by decide +kernel) rfl
theorem k103 : (Jvm.Cond.fieldLink "DemandTerms$Page" (15 : Nat) "DemandTerms$Page" "length" "I") ∈ AW := AW_t 103 (by decide +kernel) rfl
theorem k109 : (Jvm.Cond.arrayClass Jvm.ClassFile.FieldType.char) ∈ AW := AW_t 109 (by decide +kernel) rfl
theorem k110 : (Jvm.Cond.fieldLink "DemandTerms" (12 : Nat) "DemandTerms" "names" "LDemandTerms$Names;") ∈ AW := AW_t 110 (by decide +kernel) rfl
theorem k111 : (Jvm.Cond.fieldLink "DemandTerms" (19 : Nat) "DemandTerms" "table" "LDemandTerms$TermTable;") ∈ AW := AW_t 111 (by decide +kernel) rfl
theorem k112 : (Jvm.Cond.fieldLink "DemandTerms" (26 : Nat) "DemandTerms" "rows" "LDemandTerms$NeedRows;") ∈ AW := AW_t 112 (by decide +kernel) rfl
theorem k113 : (Jvm.Cond.fieldLink "DemandTerms" (33 : Nat) "DemandTerms" "clashes" "LDemandTerms$Clashes;") ∈ AW := AW_t 113 (by decide +kernel) rfl
theorem k114 : (Jvm.Cond.fieldLink "DemandTerms" (37 : Nat) "DemandTerms" "choice" "[J") ∈ AW := AW_t 114 (by decide +kernel) rfl
theorem k115 : (Jvm.Cond.fieldLink "DemandTerms" (44 : Nat) "DemandTerms" "page" "LDemandTerms$Page;") ∈ AW := AW_t 115 (by decide +kernel) rfl
theorem k129 : (Jvm.Cond.methodLink "DemandTermsLaw" (13 : Nat) ({ cls := "DemandTerms", name := "versions", desc := "(I)I" } : Jvm.MethodName)) ∈ AW := AW_t 129 (by decide +kernel) rfl
theorem k130 : (Jvm.Cond.instanceMethod ({ cls := "DemandTerms", name := "versions", desc := "(I)I" } : Jvm.MethodName)) ∈ AW := AW_t 130 (by decide +kernel) rfl
theorem k131 : (Jvm.Cond.selects "DemandTerms" ({ cls := "DemandTerms", name := "versions", desc := "(I)I" } : Jvm.MethodName) ({ cls := "DemandTerms", name := "versions", desc := "(I)I" } : Jvm.MethodName)) ∈ AW := AW_t 131 (by decide +kernel) rfl
set_option maxRecDepth 100000 in
theorem k132 : (Jvm.Cond.code ({ cls := "DemandTerms", name := "versions", desc := "(I)I" } : Jvm.MethodName) prog_1_method_2_code (3 : Nat) (Option.some Jvm.ClassFile.FieldType.int)) ∈ AW := AW_t 132 rfl rfl
theorem k133 : (Jvm.Cond.methodLink "DemandTerms" (48 : Nat) ({ cls := "DemandTerms$Names", name := "add", desc := "(I)I" } : Jvm.MethodName)) ∈ AW := AW_t 133 (by decide +kernel) rfl
theorem k134 : (Jvm.Cond.instanceMethod ({ cls := "DemandTerms$Names", name := "add", desc := "(I)I" } : Jvm.MethodName)) ∈ AW := AW_t 134 (by decide +kernel) rfl
theorem k135 : (Jvm.Cond.selects "DemandTerms$Names" ({ cls := "DemandTerms$Names", name := "add", desc := "(I)I" } : Jvm.MethodName) ({ cls := "DemandTerms$Names", name := "add", desc := "(I)I" } : Jvm.MethodName)) ∈ AW := AW_t 135 (by decide +kernel) rfl
set_option maxRecDepth 100000 in
theorem k136 : (Jvm.Cond.code ({ cls := "DemandTerms$Names", name := "add", desc := "(I)I" } : Jvm.MethodName) prog_3_method_3_code (2 : Nat) (Option.some Jvm.ClassFile.FieldType.int)) ∈ AW := AW_t 136 rfl rfl
theorem k137 : (Jvm.Cond.constantLong "DemandTerms$Names" (19 : Nat) (281474976710656 : Int64)) ∈ AW := AW_t 137 (by decide +kernel) rfl
theorem k138 : (Jvm.Cond.methodLink "DemandTerms" (52 : Nat) ({ cls := "DemandTerms$Names", name := "everywhere", desc := "(I)J" } : Jvm.MethodName)) ∈ AW := AW_t 138 (by decide +kernel) rfl
theorem k139 : (Jvm.Cond.instanceMethod ({ cls := "DemandTerms$Names", name := "everywhere", desc := "(I)J" } : Jvm.MethodName)) ∈ AW := AW_t 139 (by decide +kernel) rfl
theorem k140 : (Jvm.Cond.selects "DemandTerms$Names" ({ cls := "DemandTerms$Names", name := "everywhere", desc := "(I)J" } : Jvm.MethodName) ({ cls := "DemandTerms$Names", name := "everywhere", desc := "(I)J" } : Jvm.MethodName)) ∈ AW := AW_t 140 (by decide +kernel) rfl
set_option maxRecDepth 100000 in
theorem k141 : (Jvm.Cond.code ({ cls := "DemandTerms$Names", name := "everywhere", desc := "(I)J" } : Jvm.MethodName) prog_3_method_6_code (2 : Nat) (Option.some Jvm.ClassFile.FieldType.long)) ∈ AW := AW_t 141 rfl rfl
theorem k142 : (Jvm.Cond.methodLink "DemandTerms$Names" (29 : Nat) ({ cls := "DemandTerms$Names", name := "has", desc := "(I)Z" } : Jvm.MethodName)) ∈ AW := AW_t 142 (by decide +kernel) rfl
theorem k143 : (Jvm.Cond.instanceMethod ({ cls := "DemandTerms$Names", name := "has", desc := "(I)Z" } : Jvm.MethodName)) ∈ AW := AW_t 143 (by decide +kernel) rfl
theorem k144 : (Jvm.Cond.selects "DemandTerms$Names" ({ cls := "DemandTerms$Names", name := "has", desc := "(I)Z" } : Jvm.MethodName) ({ cls := "DemandTerms$Names", name := "has", desc := "(I)Z" } : Jvm.MethodName)) ∈ AW := AW_t 144 (by decide +kernel) rfl
set_option maxRecDepth 100000 in
theorem k145 : (Jvm.Cond.code ({ cls := "DemandTerms$Names", name := "has", desc := "(I)Z" } : Jvm.MethodName) prog_3_method_4_code (2 : Nat) (Option.some Jvm.ClassFile.FieldType.boolean)) ∈ AW := AW_t 145 rfl rfl
theorem k146 : (Jvm.Cond.methodLink "DemandTermsLaw" (20 : Nat) ({ cls := "DemandTerms", name := "term", desc := "(IJZ)I" } : Jvm.MethodName)) ∈ AW := AW_t 146 (by decide +kernel) rfl
theorem k147 : (Jvm.Cond.instanceMethod ({ cls := "DemandTerms", name := "term", desc := "(IJZ)I" } : Jvm.MethodName)) ∈ AW := AW_t 147 (by decide +kernel) rfl
theorem k148 : (Jvm.Cond.selects "DemandTerms" ({ cls := "DemandTerms", name := "term", desc := "(IJZ)I" } : Jvm.MethodName) ({ cls := "DemandTerms", name := "term", desc := "(IJZ)I" } : Jvm.MethodName)) ∈ AW := AW_t 148 (by decide +kernel) rfl
set_option maxRecDepth 100000 in
theorem k149 : (Jvm.Cond.code ({ cls := "DemandTerms", name := "term", desc := "(IJZ)I" } : Jvm.MethodName) prog_1_method_3_code (5 : Nat) (Option.some Jvm.ClassFile.FieldType.int)) ∈ AW := AW_t 149 rfl rfl
theorem k150 : (Jvm.Cond.methodLink "DemandTerms" (56 : Nat) ({ cls := "DemandTerms$Names", name := "has", desc := "(I)Z" } : Jvm.MethodName)) ∈ AW := AW_t 150 (by decide +kernel) rfl
theorem k151 : (Jvm.Cond.methodLink "DemandTerms" (60 : Nat) ({ cls := "DemandTerms$Names", name := "placesOf", desc := "(IJZ)J" } : Jvm.MethodName)) ∈ AW := AW_t 151 (by decide +kernel) rfl
theorem k152 : (Jvm.Cond.instanceMethod ({ cls := "DemandTerms$Names", name := "placesOf", desc := "(IJZ)J" } : Jvm.MethodName)) ∈ AW := AW_t 152 (by decide +kernel) rfl
theorem k153 : (Jvm.Cond.selects "DemandTerms$Names" ({ cls := "DemandTerms$Names", name := "placesOf", desc := "(IJZ)J" } : Jvm.MethodName) ({ cls := "DemandTerms$Names", name := "placesOf", desc := "(IJZ)J" } : Jvm.MethodName)) ∈ AW := AW_t 153 (by decide +kernel) rfl
set_option maxRecDepth 100000 in
theorem k154 : (Jvm.Cond.code ({ cls := "DemandTerms$Names", name := "placesOf", desc := "(IJZ)J" } : Jvm.MethodName) prog_3_method_7_code (7 : Nat) (Option.some Jvm.ClassFile.FieldType.long)) ∈ AW := AW_t 154 rfl rfl
theorem k155 : (Jvm.Cond.methodLink "DemandTerms$Names" (21 : Nat) ({ cls := "DemandTerms$Names", name := "everywhere", desc := "(I)J" } : Jvm.MethodName)) ∈ AW := AW_t 155 (by decide +kernel) rfl
theorem k156 : (Jvm.Cond.constantLong "DemandTerms$Names" (33 : Nat) (-281474976710657 : Int64)) ∈ AW := AW_t 156 (by decide +kernel) rfl
theorem k157 : (Jvm.Cond.methodLink "DemandTerms" (64 : Nat) ({ cls := "DemandTerms$TermTable", name := "add", desc := "(IJ)I" } : Jvm.MethodName)) ∈ AW := AW_t 157 (by decide +kernel) rfl
theorem k158 : (Jvm.Cond.instanceMethod ({ cls := "DemandTerms$TermTable", name := "add", desc := "(IJ)I" } : Jvm.MethodName)) ∈ AW := AW_t 158 (by decide +kernel) rfl
theorem k159 : (Jvm.Cond.selects "DemandTerms$TermTable" ({ cls := "DemandTerms$TermTable", name := "add", desc := "(IJ)I" } : Jvm.MethodName) ({ cls := "DemandTerms$TermTable", name := "add", desc := "(IJ)I" } : Jvm.MethodName)) ∈ AW := AW_t 159 (by decide +kernel) rfl
set_option maxRecDepth 100000 in
theorem k160 : (Jvm.Cond.code ({ cls := "DemandTerms$TermTable", name := "add", desc := "(IJ)I" } : Jvm.MethodName) prog_6_method_3_code (4 : Nat) (Option.some Jvm.ClassFile.FieldType.int)) ∈ AW := AW_t 160 rfl rfl
theorem k161 : (Jvm.Cond.methodLink "DemandTermsLaw" (25 : Nat) ({ cls := "DemandTerms", name := "both", desc := "(IIZ)I" } : Jvm.MethodName)) ∈ AW := AW_t 161 (by decide +kernel) rfl
theorem k162 : (Jvm.Cond.instanceMethod ({ cls := "DemandTerms", name := "both", desc := "(IIZ)I" } : Jvm.MethodName)) ∈ AW := AW_t 162 (by decide +kernel) rfl
theorem k163 : (Jvm.Cond.selects "DemandTerms" ({ cls := "DemandTerms", name := "both", desc := "(IIZ)I" } : Jvm.MethodName) ({ cls := "DemandTerms", name := "both", desc := "(IIZ)I" } : Jvm.MethodName)) ∈ AW := AW_t 163 (by decide +kernel) rfl
set_option maxRecDepth 100000 in
theorem k164 : (Jvm.Cond.code ({ cls := "DemandTerms", name := "both", desc := "(IIZ)I" } : Jvm.MethodName) prog_1_method_4_code (8 : Nat) (Option.some Jvm.ClassFile.FieldType.int)) ∈ AW := AW_t 164 rfl rfl
theorem k165 : (Jvm.Cond.methodLink "DemandTerms" (67 : Nat) ({ cls := "DemandTerms$TermTable", name := "has", desc := "(I)Z" } : Jvm.MethodName)) ∈ AW := AW_t 165 (by decide +kernel) rfl
theorem k166 : (Jvm.Cond.instanceMethod ({ cls := "DemandTerms$TermTable", name := "has", desc := "(I)Z" } : Jvm.MethodName)) ∈ AW := AW_t 166 (by decide +kernel) rfl
theorem k167 : (Jvm.Cond.selects "DemandTerms$TermTable" ({ cls := "DemandTerms$TermTable", name := "has", desc := "(I)Z" } : Jvm.MethodName) ({ cls := "DemandTerms$TermTable", name := "has", desc := "(I)Z" } : Jvm.MethodName)) ∈ AW := AW_t 167 (by decide +kernel) rfl
set_option maxRecDepth 100000 in
theorem k168 : (Jvm.Cond.code ({ cls := "DemandTerms$TermTable", name := "has", desc := "(I)Z" } : Jvm.MethodName) prog_6_method_2_code (2 : Nat) (Option.some Jvm.ClassFile.FieldType.boolean)) ∈ AW := AW_t 168 rfl rfl
theorem k169 : (Jvm.Cond.methodLink "DemandTerms" (68 : Nat) ({ cls := "DemandTerms$TermTable", name := "nameOf", desc := "(I)I" } : Jvm.MethodName)) ∈ AW := AW_t 169 (by decide +kernel) rfl
theorem k170 : (Jvm.Cond.instanceMethod ({ cls := "DemandTerms$TermTable", name := "nameOf", desc := "(I)I" } : Jvm.MethodName)) ∈ AW := AW_t 170 (by decide +kernel) rfl
theorem k171 : (Jvm.Cond.selects "DemandTerms$TermTable" ({ cls := "DemandTerms$TermTable", name := "nameOf", desc := "(I)I" } : Jvm.MethodName) ({ cls := "DemandTerms$TermTable", name := "nameOf", desc := "(I)I" } : Jvm.MethodName)) ∈ AW := AW_t 171 (by decide +kernel) rfl
set_option maxRecDepth 100000 in
theorem k172 : (Jvm.Cond.code ({ cls := "DemandTerms$TermTable", name := "nameOf", desc := "(I)I" } : Jvm.MethodName) prog_6_method_4_code (2 : Nat) (Option.some Jvm.ClassFile.FieldType.int)) ∈ AW := AW_t 172 rfl rfl
theorem k173 : (Jvm.Cond.methodLink "DemandTerms$TermTable" (23 : Nat) ({ cls := "DemandTerms$TermTable", name := "has", desc := "(I)Z" } : Jvm.MethodName)) ∈ AW := AW_t 173 (by decide +kernel) rfl
theorem k174 : (Jvm.Cond.methodLink "DemandTerms" (71 : Nat) ({ cls := "DemandTerms$TermTable", name := "placesOf", desc := "(I)J" } : Jvm.MethodName)) ∈ AW := AW_t 174 (by decide +kernel) rfl
theorem k175 : (Jvm.Cond.instanceMethod ({ cls := "DemandTerms$TermTable", name := "placesOf", desc := "(I)J" } : Jvm.MethodName)) ∈ AW := AW_t 175 (by decide +kernel) rfl
theorem k176 : (Jvm.Cond.selects "DemandTerms$TermTable" ({ cls := "DemandTerms$TermTable", name := "placesOf", desc := "(I)J" } : Jvm.MethodName) ({ cls := "DemandTerms$TermTable", name := "placesOf", desc := "(I)J" } : Jvm.MethodName)) ∈ AW := AW_t 176 (by decide +kernel) rfl
set_option maxRecDepth 100000 in
theorem k177 : (Jvm.Cond.code ({ cls := "DemandTerms$TermTable", name := "placesOf", desc := "(I)J" } : Jvm.MethodName) prog_6_method_5_code (2 : Nat) (Option.some Jvm.ClassFile.FieldType.long)) ∈ AW := AW_t 177 rfl rfl
theorem k178 : (Jvm.Cond.methodLink "DemandTermsLaw" (30 : Nat) ({ cls := "DemandTerms", name := "relate", desc := "(II)I" } : Jvm.MethodName)) ∈ AW := AW_t 178 (by decide +kernel) rfl
theorem k179 : (Jvm.Cond.instanceMethod ({ cls := "DemandTerms", name := "relate", desc := "(II)I" } : Jvm.MethodName)) ∈ AW := AW_t 179 (by decide +kernel) rfl
theorem k180 : (Jvm.Cond.selects "DemandTerms" ({ cls := "DemandTerms", name := "relate", desc := "(II)I" } : Jvm.MethodName) ({ cls := "DemandTerms", name := "relate", desc := "(II)I" } : Jvm.MethodName)) ∈ AW := AW_t 180 (by decide +kernel) rfl
set_option maxRecDepth 100000 in
theorem k181 : (Jvm.Cond.code ({ cls := "DemandTerms", name := "relate", desc := "(II)I" } : Jvm.MethodName) prog_1_method_5_code (5 : Nat) (Option.some Jvm.ClassFile.FieldType.int)) ∈ AW := AW_t 181 rfl rfl
theorem k182 : (Jvm.Cond.methodLink "DemandTerms" (73 : Nat) ({ cls := "DemandTerms", name := "relation", desc := "(JJ)I" } : Jvm.MethodName)) ∈ AW := AW_t 182 (by decide +kernel) rfl
theorem k183 : (Jvm.Cond.static ({ cls := "DemandTerms", name := "relation", desc := "(JJ)I" } : Jvm.MethodName)) ∈ AW := AW_t 183 (by decide +kernel) rfl
set_option maxRecDepth 100000 in
theorem k184 : (Jvm.Cond.code ({ cls := "DemandTerms", name := "relation", desc := "(JJ)I" } : Jvm.MethodName) prog_1_method_39_code (4 : Nat) (Option.some Jvm.ClassFile.FieldType.int)) ∈ AW := AW_t 184 rfl rfl
theorem k185 : (Jvm.Cond.constantLong "DemandTerms" (219 : Nat) (-1 : Int64)) ∈ AW := AW_t 185 (by decide +kernel) rfl
theorem k186 : (Jvm.Cond.methodLink "DemandTermsLaw" (35 : Nat) ({ cls := "DemandTerms", name := "about", desc := "(II)I" } : Jvm.MethodName)) ∈ AW := AW_t 186 (by decide +kernel) rfl
theorem k187 : (Jvm.Cond.instanceMethod ({ cls := "DemandTerms", name := "about", desc := "(II)I" } : Jvm.MethodName)) ∈ AW := AW_t 187 (by decide +kernel) rfl
theorem k188 : (Jvm.Cond.selects "DemandTerms" ({ cls := "DemandTerms", name := "about", desc := "(II)I" } : Jvm.MethodName) ({ cls := "DemandTerms", name := "about", desc := "(II)I" } : Jvm.MethodName)) ∈ AW := AW_t 188 (by decide +kernel) rfl
set_option maxRecDepth 100000 in
theorem k189 : (Jvm.Cond.code ({ cls := "DemandTerms", name := "about", desc := "(II)I" } : Jvm.MethodName) prog_1_method_6_code (3 : Nat) (Option.some Jvm.ClassFile.FieldType.int)) ∈ AW := AW_t 189 rfl rfl
theorem k190 : (Jvm.Cond.methodLink "DemandTerms" (77 : Nat) ({ cls := "DemandTerms", name := "describe", desc := "(IJI)I" } : Jvm.MethodName)) ∈ AW := AW_t 190 (by decide +kernel) rfl
theorem k192 : (Jvm.Cond.instanceMethod ({ cls := "DemandTerms", name := "describe", desc := "(IJI)I" } : Jvm.MethodName)) ∈ AW := AW_t 192 (by decide +kernel) rfl
set_option maxRecDepth 100000 in
theorem k193 : (Jvm.Cond.code ({ cls := "DemandTerms", name := "describe", desc := "(IJI)I" } : Jvm.MethodName) prog_1_method_25_code (5 : Nat) (Option.some Jvm.ClassFile.FieldType.int)) ∈ AW := AW_t 193 rfl rfl
theorem k194 : (Jvm.Cond.methodLink "DemandTerms" (165 : Nat) ({ cls := "DemandTerms", name := "isWanted", desc := "(J)Z" } : Jvm.MethodName)) ∈ AW := AW_t 194 (by decide +kernel) rfl
theorem k195 : (Jvm.Cond.static ({ cls := "DemandTerms", name := "isWanted", desc := "(J)Z" } : Jvm.MethodName)) ∈ AW := AW_t 195 (by decide +kernel) rfl
set_option maxRecDepth 100000 in
theorem k196 : (Jvm.Cond.code ({ cls := "DemandTerms", name := "isWanted", desc := "(J)Z" } : Jvm.MethodName) prog_1_method_37_code (2 : Nat) (Option.some Jvm.ClassFile.FieldType.boolean)) ∈ AW := AW_t 196 rfl rfl
theorem k197 : (Jvm.Cond.constantLong "DemandTerms" (217 : Nat) (281474976710656 : Int64)) ∈ AW := AW_t 197 (by decide +kernel) rfl
theorem k198 : (Jvm.Cond.methodLink "DemandTerms" (81 : Nat) ({ cls := "DemandTerms$Names", name := "setOf", desc := "(IJ)J" } : Jvm.MethodName)) ∈ AW := AW_t 198 (by decide +kernel) rfl
theorem k199 : (Jvm.Cond.instanceMethod ({ cls := "DemandTerms$Names", name := "setOf", desc := "(IJ)J" } : Jvm.MethodName)) ∈ AW := AW_t 199 (by decide +kernel) rfl
theorem k200 : (Jvm.Cond.selects "DemandTerms$Names" ({ cls := "DemandTerms$Names", name := "setOf", desc := "(IJ)J" } : Jvm.MethodName) ({ cls := "DemandTerms$Names", name := "setOf", desc := "(IJ)J" } : Jvm.MethodName)) ∈ AW := AW_t 200 (by decide +kernel) rfl
set_option maxRecDepth 100000 in
theorem k201 : (Jvm.Cond.code ({ cls := "DemandTerms$Names", name := "setOf", desc := "(IJ)J" } : Jvm.MethodName) prog_3_method_8_code (4 : Nat) (Option.some Jvm.ClassFile.FieldType.long)) ∈ AW := AW_t 201 rfl rfl
theorem k203 : (Jvm.Cond.methodLink "DemandTerms" (169 : Nat) ({ cls := "java/lang/Long", name := "bitCount", desc := "(J)I" } : Jvm.MethodName)) ∈ AW := AW_t 203 (by decide +kernel) rfl
theorem k204 : (Jvm.Cond.static ({ cls := "java/lang/Long", name := "bitCount", desc := "(J)I" } : Jvm.MethodName)) ∈ AW := AW_t 204 (by decide +kernel) rfl
set_option maxRecDepth 100000 in
theorem k205 : (Jvm.Cond.code ({ cls := "java/lang/Long", name := "bitCount", desc := "(J)I" } : Jvm.MethodName) prog_10_method_50_code (2 : Nat) (Option.some Jvm.ClassFile.FieldType.int)) ∈ AW := AW_t 205 rfl rfl
theorem k206 : (Jvm.Cond.constantLong "java/lang/Long" (314 : Nat) (6148914691236517205 : Int64)) ∈ AW := AW_t 206 (by decide +kernel) rfl
theorem k207 : (Jvm.Cond.constantLong "java/lang/Long" (316 : Nat) (3689348814741910323 : Int64)) ∈ AW := AW_t 207 (by decide +kernel) rfl
theorem k208 : (Jvm.Cond.constantLong "java/lang/Long" (318 : Nat) (1085102592571150095 : Int64)) ∈ AW := AW_t 208 (by decide +kernel) rfl
theorem k209 : (Jvm.Cond.methodLink "DemandTermsLaw" (39 : Nat) ({ cls := "DemandTerms", name := "set", desc := "(I)J" } : Jvm.MethodName)) ∈ AW := AW_t 209 (by decide +kernel) rfl
theorem k210 : (Jvm.Cond.instanceMethod ({ cls := "DemandTerms", name := "set", desc := "(I)J" } : Jvm.MethodName)) ∈ AW := AW_t 210 (by decide +kernel) rfl
theorem k211 : (Jvm.Cond.selects "DemandTerms" ({ cls := "DemandTerms", name := "set", desc := "(I)J" } : Jvm.MethodName) ({ cls := "DemandTerms", name := "set", desc := "(I)J" } : Jvm.MethodName)) ∈ AW := AW_t 211 (by decide +kernel) rfl
set_option maxRecDepth 100000 in
theorem k212 : (Jvm.Cond.code ({ cls := "DemandTerms", name := "set", desc := "(I)J" } : Jvm.MethodName) prog_1_method_7_code (2 : Nat) (Option.some Jvm.ClassFile.FieldType.long)) ∈ AW := AW_t 212 rfl rfl
theorem k213 : (Jvm.Cond.methodLink "DemandTermsLaw" (44 : Nat) ({ cls := "DemandTerms", name := "needs", desc := "(IIIJI)Z" } : Jvm.MethodName)) ∈ AW := AW_t 213 (by decide +kernel) rfl
theorem k214 : (Jvm.Cond.instanceMethod ({ cls := "DemandTerms", name := "needs", desc := "(IIIJI)Z" } : Jvm.MethodName)) ∈ AW := AW_t 214 (by decide +kernel) rfl
theorem k215 : (Jvm.Cond.selects "DemandTerms" ({ cls := "DemandTerms", name := "needs", desc := "(IIIJI)Z" } : Jvm.MethodName) ({ cls := "DemandTerms", name := "needs", desc := "(IIIJI)Z" } : Jvm.MethodName)) ∈ AW := AW_t 215 (by decide +kernel) rfl
set_option maxRecDepth 100000 in
theorem k216 : (Jvm.Cond.code ({ cls := "DemandTerms", name := "needs", desc := "(IIIJI)Z" } : Jvm.MethodName) prog_1_method_8_code (7 : Nat) (Option.some Jvm.ClassFile.FieldType.boolean)) ∈ AW := AW_t 216 rfl rfl
theorem k217 : (Jvm.Cond.methodLink "DemandTerms" (85 : Nat) ({ cls := "DemandTerms$Names", name := "hasVersion", desc := "(II)Z" } : Jvm.MethodName)) ∈ AW := AW_t 217 (by decide +kernel) rfl
theorem k218 : (Jvm.Cond.instanceMethod ({ cls := "DemandTerms$Names", name := "hasVersion", desc := "(II)Z" } : Jvm.MethodName)) ∈ AW := AW_t 218 (by decide +kernel) rfl
theorem k219 : (Jvm.Cond.selects "DemandTerms$Names" ({ cls := "DemandTerms$Names", name := "hasVersion", desc := "(II)Z" } : Jvm.MethodName) ({ cls := "DemandTerms$Names", name := "hasVersion", desc := "(II)Z" } : Jvm.MethodName)) ∈ AW := AW_t 219 (by decide +kernel) rfl
set_option maxRecDepth 100000 in
theorem k220 : (Jvm.Cond.code ({ cls := "DemandTerms$Names", name := "hasVersion", desc := "(II)Z" } : Jvm.MethodName) prog_3_method_5_code (3 : Nat) (Option.some Jvm.ClassFile.FieldType.boolean)) ∈ AW := AW_t 220 rfl rfl
theorem k222 : (Jvm.Cond.static ({ cls := "DemandTerms", name := "hasVersion", desc := "(JI)Z" } : Jvm.MethodName)) ∈ AW := AW_t 222 (by decide +kernel) rfl
set_option maxRecDepth 100000 in
theorem k223 : (Jvm.Cond.code ({ cls := "DemandTerms", name := "hasVersion", desc := "(JI)Z" } : Jvm.MethodName) prog_1_method_38_code (3 : Nat) (Option.some Jvm.ClassFile.FieldType.boolean)) ∈ AW := AW_t 223 rfl rfl
theorem k224 : (Jvm.Cond.methodLink "DemandTerms" (89 : Nat) ({ cls := "DemandTerms$NeedRows", name := "add", desc := "(IIIJI)Z" } : Jvm.MethodName)) ∈ AW := AW_t 224 (by decide +kernel) rfl
theorem k225 : (Jvm.Cond.instanceMethod ({ cls := "DemandTerms$NeedRows", name := "add", desc := "(IIIJI)Z" } : Jvm.MethodName)) ∈ AW := AW_t 225 (by decide +kernel) rfl
theorem k226 : (Jvm.Cond.selects "DemandTerms$NeedRows" ({ cls := "DemandTerms$NeedRows", name := "add", desc := "(IIIJI)Z" } : Jvm.MethodName) ({ cls := "DemandTerms$NeedRows", name := "add", desc := "(IIIJI)Z" } : Jvm.MethodName)) ∈ AW := AW_t 226 (by decide +kernel) rfl
set_option maxRecDepth 100000 in
theorem k227 : (Jvm.Cond.code ({ cls := "DemandTerms$NeedRows", name := "add", desc := "(IIIJI)Z" } : Jvm.MethodName) prog_4_method_3_code (7 : Nat) (Option.some Jvm.ClassFile.FieldType.boolean)) ∈ AW := AW_t 227 rfl rfl
theorem k228 : (Jvm.Cond.methodLink "DemandTermsLaw" (49 : Nat) ({ cls := "DemandTerms", name := "derive", desc := "(II)I" } : Jvm.MethodName)) ∈ AW := AW_t 228 (by decide +kernel) rfl
theorem k229 : (Jvm.Cond.instanceMethod ({ cls := "DemandTerms", name := "derive", desc := "(II)I" } : Jvm.MethodName)) ∈ AW := AW_t 229 (by decide +kernel) rfl
theorem k230 : (Jvm.Cond.selects "DemandTerms" ({ cls := "DemandTerms", name := "derive", desc := "(II)I" } : Jvm.MethodName) ({ cls := "DemandTerms", name := "derive", desc := "(II)I" } : Jvm.MethodName)) ∈ AW := AW_t 230 (by decide +kernel) rfl
set_option maxRecDepth 100000 in
theorem k231 : (Jvm.Cond.code ({ cls := "DemandTerms", name := "derive", desc := "(II)I" } : Jvm.MethodName) prog_1_method_9_code (5 : Nat) (Option.some Jvm.ClassFile.FieldType.int)) ∈ AW := AW_t 231 rfl rfl
theorem k232 : (Jvm.Cond.methodLink "DemandTerms" (92 : Nat) ({ cls := "DemandTerms$Clashes", name := "size", desc := "()I" } : Jvm.MethodName)) ∈ AW := AW_t 232 (by decide +kernel) rfl
theorem k233 : (Jvm.Cond.instanceMethod ({ cls := "DemandTerms$Clashes", name := "size", desc := "()I" } : Jvm.MethodName)) ∈ AW := AW_t 233 (by decide +kernel) rfl
theorem k234 : (Jvm.Cond.selects "DemandTerms$Clashes" ({ cls := "DemandTerms$Clashes", name := "size", desc := "()I" } : Jvm.MethodName) ({ cls := "DemandTerms$Clashes", name := "size", desc := "()I" } : Jvm.MethodName)) ∈ AW := AW_t 234 (by decide +kernel) rfl
set_option maxRecDepth 100000 in
theorem k235 : (Jvm.Cond.code ({ cls := "DemandTerms$Clashes", name := "size", desc := "()I" } : Jvm.MethodName) prog_2_method_2_code (1 : Nat) (Option.some Jvm.ClassFile.FieldType.int)) ∈ AW := AW_t 235 rfl rfl
theorem k236 : (Jvm.Cond.methodLink "DemandTerms" (96 : Nat) ({ cls := "DemandTerms$NeedRows", name := "size", desc := "()I" } : Jvm.MethodName)) ∈ AW := AW_t 236 (by decide +kernel) rfl
theorem k237 : (Jvm.Cond.instanceMethod ({ cls := "DemandTerms$NeedRows", name := "size", desc := "()I" } : Jvm.MethodName)) ∈ AW := AW_t 237 (by decide +kernel) rfl
theorem k238 : (Jvm.Cond.selects "DemandTerms$NeedRows" ({ cls := "DemandTerms$NeedRows", name := "size", desc := "()I" } : Jvm.MethodName) ({ cls := "DemandTerms$NeedRows", name := "size", desc := "()I" } : Jvm.MethodName)) ∈ AW := AW_t 238 (by decide +kernel) rfl
set_option maxRecDepth 100000 in
theorem k239 : (Jvm.Cond.code ({ cls := "DemandTerms$NeedRows", name := "size", desc := "()I" } : Jvm.MethodName) prog_4_method_2_code (1 : Nat) (Option.some Jvm.ClassFile.FieldType.int)) ∈ AW := AW_t 239 rfl rfl
theorem k240 : (Jvm.Cond.methodLink "DemandTerms" (97 : Nat) ({ cls := "DemandTerms$NeedRows", name := "isOf", desc := "(III)Z" } : Jvm.MethodName)) ∈ AW := AW_t 240 (by decide +kernel) rfl
theorem k241 : (Jvm.Cond.instanceMethod ({ cls := "DemandTerms$NeedRows", name := "isOf", desc := "(III)Z" } : Jvm.MethodName)) ∈ AW := AW_t 241 (by decide +kernel) rfl
theorem k242 : (Jvm.Cond.selects "DemandTerms$NeedRows" ({ cls := "DemandTerms$NeedRows", name := "isOf", desc := "(III)Z" } : Jvm.MethodName) ({ cls := "DemandTerms$NeedRows", name := "isOf", desc := "(III)Z" } : Jvm.MethodName)) ∈ AW := AW_t 242 (by decide +kernel) rfl
set_option maxRecDepth 100000 in
theorem k243 : (Jvm.Cond.code ({ cls := "DemandTerms$NeedRows", name := "isOf", desc := "(III)Z" } : Jvm.MethodName) prog_4_method_5_code (4 : Nat) (Option.some Jvm.ClassFile.FieldType.boolean)) ∈ AW := AW_t 243 rfl rfl
theorem k244 : (Jvm.Cond.methodLink "DemandTerms$NeedRows" (32 : Nat) ({ cls := "DemandTerms$NeedRows", name := "has", desc := "(I)Z" } : Jvm.MethodName)) ∈ AW := AW_t 244 (by decide +kernel) rfl
theorem k245 : (Jvm.Cond.instanceMethod ({ cls := "DemandTerms$NeedRows", name := "has", desc := "(I)Z" } : Jvm.MethodName)) ∈ AW := AW_t 245 (by decide +kernel) rfl
theorem k246 : (Jvm.Cond.selects "DemandTerms$NeedRows" ({ cls := "DemandTerms$NeedRows", name := "has", desc := "(I)Z" } : Jvm.MethodName) ({ cls := "DemandTerms$NeedRows", name := "has", desc := "(I)Z" } : Jvm.MethodName)) ∈ AW := AW_t 246 (by decide +kernel) rfl
set_option maxRecDepth 100000 in
theorem k247 : (Jvm.Cond.code ({ cls := "DemandTerms$NeedRows", name := "has", desc := "(I)Z" } : Jvm.MethodName) prog_4_method_4_code (2 : Nat) (Option.some Jvm.ClassFile.FieldType.boolean)) ∈ AW := AW_t 247 rfl rfl
theorem k248 : (Jvm.Cond.methodLink "DemandTerms" (101 : Nat) ({ cls := "DemandTerms", name := "isDerived", desc := "(I)Z" } : Jvm.MethodName)) ∈ AW := AW_t 248 (by decide +kernel) rfl
theorem k250 : (Jvm.Cond.instanceMethod ({ cls := "DemandTerms", name := "isDerived", desc := "(I)Z" } : Jvm.MethodName)) ∈ AW := AW_t 250 (by decide +kernel) rfl
set_option maxRecDepth 100000 in
theorem k251 : (Jvm.Cond.code ({ cls := "DemandTerms", name := "isDerived", desc := "(I)Z" } : Jvm.MethodName) prog_1_method_26_code (4 : Nat) (Option.some Jvm.ClassFile.FieldType.boolean)) ∈ AW := AW_t 251 rfl rfl
theorem k252 : (Jvm.Cond.methodLink "DemandTerms" (175 : Nat) ({ cls := "DemandTerms$NeedRows", name := "versionOf", desc := "(I)I" } : Jvm.MethodName)) ∈ AW := AW_t 252 (by decide +kernel) rfl
theorem k253 : (Jvm.Cond.instanceMethod ({ cls := "DemandTerms$NeedRows", name := "versionOf", desc := "(I)I" } : Jvm.MethodName)) ∈ AW := AW_t 253 (by decide +kernel) rfl
theorem k254 : (Jvm.Cond.selects "DemandTerms$NeedRows" ({ cls := "DemandTerms$NeedRows", name := "versionOf", desc := "(I)I" } : Jvm.MethodName) ({ cls := "DemandTerms$NeedRows", name := "versionOf", desc := "(I)I" } : Jvm.MethodName)) ∈ AW := AW_t 254 (by decide +kernel) rfl
set_option maxRecDepth 100000 in
theorem k255 : (Jvm.Cond.code ({ cls := "DemandTerms$NeedRows", name := "versionOf", desc := "(I)I" } : Jvm.MethodName) prog_4_method_9_code (2 : Nat) (Option.some Jvm.ClassFile.FieldType.int)) ∈ AW := AW_t 255 rfl rfl
theorem k256 : (Jvm.Cond.methodLink "DemandTerms" (178 : Nat) ({ cls := "DemandTerms$Clashes", name := "sourceOf", desc := "(I)I" } : Jvm.MethodName)) ∈ AW := AW_t 256 (by decide +kernel) rfl
theorem k257 : (Jvm.Cond.instanceMethod ({ cls := "DemandTerms$Clashes", name := "sourceOf", desc := "(I)I" } : Jvm.MethodName)) ∈ AW := AW_t 257 (by decide +kernel) rfl
theorem k258 : (Jvm.Cond.selects "DemandTerms$Clashes" ({ cls := "DemandTerms$Clashes", name := "sourceOf", desc := "(I)I" } : Jvm.MethodName) ({ cls := "DemandTerms$Clashes", name := "sourceOf", desc := "(I)I" } : Jvm.MethodName)) ∈ AW := AW_t 258 (by decide +kernel) rfl
set_option maxRecDepth 100000 in
theorem k259 : (Jvm.Cond.code ({ cls := "DemandTerms$Clashes", name := "sourceOf", desc := "(I)I" } : Jvm.MethodName) prog_2_method_12_code (2 : Nat) (Option.some Jvm.ClassFile.FieldType.int)) ∈ AW := AW_t 259 rfl rfl
theorem k260 : (Jvm.Cond.methodLink "DemandTerms$Clashes" (29 : Nat) ({ cls := "DemandTerms$Clashes", name := "has", desc := "(I)Z" } : Jvm.MethodName)) ∈ AW := AW_t 260 (by decide +kernel) rfl
theorem k261 : (Jvm.Cond.instanceMethod ({ cls := "DemandTerms$Clashes", name := "has", desc := "(I)Z" } : Jvm.MethodName)) ∈ AW := AW_t 261 (by decide +kernel) rfl
theorem k262 : (Jvm.Cond.selects "DemandTerms$Clashes" ({ cls := "DemandTerms$Clashes", name := "has", desc := "(I)Z" } : Jvm.MethodName) ({ cls := "DemandTerms$Clashes", name := "has", desc := "(I)Z" } : Jvm.MethodName)) ∈ AW := AW_t 262 (by decide +kernel) rfl
set_option maxRecDepth 100000 in
theorem k263 : (Jvm.Cond.code ({ cls := "DemandTerms$Clashes", name := "has", desc := "(I)Z" } : Jvm.MethodName) prog_2_method_3_code (2 : Nat) (Option.some Jvm.ClassFile.FieldType.boolean)) ∈ AW := AW_t 263 rfl rfl
theorem k264 : (Jvm.Cond.methodLink "DemandTerms" (181 : Nat) ({ cls := "DemandTerms$NeedRows", name := "alike", desc := "(II)Z" } : Jvm.MethodName)) ∈ AW := AW_t 264 (by decide +kernel) rfl
theorem k265 : (Jvm.Cond.instanceMethod ({ cls := "DemandTerms$NeedRows", name := "alike", desc := "(II)Z" } : Jvm.MethodName)) ∈ AW := AW_t 265 (by decide +kernel) rfl
theorem k266 : (Jvm.Cond.selects "DemandTerms$NeedRows" ({ cls := "DemandTerms$NeedRows", name := "alike", desc := "(II)Z" } : Jvm.MethodName) ({ cls := "DemandTerms$NeedRows", name := "alike", desc := "(II)Z" } : Jvm.MethodName)) ∈ AW := AW_t 266 (by decide +kernel) rfl
set_option maxRecDepth 100000 in
theorem k267 : (Jvm.Cond.code ({ cls := "DemandTerms$NeedRows", name := "alike", desc := "(II)Z" } : Jvm.MethodName) prog_4_method_6_code (3 : Nat) (Option.some Jvm.ClassFile.FieldType.boolean)) ∈ AW := AW_t 267 rfl rfl
theorem k268 : (Jvm.Cond.methodLink "DemandTerms" (184 : Nat) ({ cls := "DemandTerms$Clashes", name := "runOf", desc := "(I)J" } : Jvm.MethodName)) ∈ AW := AW_t 268 (by decide +kernel) rfl
theorem k269 : (Jvm.Cond.instanceMethod ({ cls := "DemandTerms$Clashes", name := "runOf", desc := "(I)J" } : Jvm.MethodName)) ∈ AW := AW_t 269 (by decide +kernel) rfl
theorem k270 : (Jvm.Cond.selects "DemandTerms$Clashes" ({ cls := "DemandTerms$Clashes", name := "runOf", desc := "(I)J" } : Jvm.MethodName) ({ cls := "DemandTerms$Clashes", name := "runOf", desc := "(I)J" } : Jvm.MethodName)) ∈ AW := AW_t 270 (by decide +kernel) rfl
set_option maxRecDepth 100000 in
theorem k271 : (Jvm.Cond.code ({ cls := "DemandTerms$Clashes", name := "runOf", desc := "(I)J" } : Jvm.MethodName) prog_2_method_13_code (2 : Nat) (Option.some Jvm.ClassFile.FieldType.long)) ∈ AW := AW_t 271 rfl rfl
theorem k272 : (Jvm.Cond.methodLink "DemandTerms" (187 : Nat) ({ cls := "DemandTerms", name := "hasVersion", desc := "(JI)Z" } : Jvm.MethodName)) ∈ AW := AW_t 272 (by decide +kernel) rfl
theorem k273 : (Jvm.Cond.methodLink "DemandTerms" (104 : Nat) ({ cls := "DemandTerms", name := "deriveFrom", desc := "(I)Z" } : Jvm.MethodName)) ∈ AW := AW_t 273 (by decide +kernel) rfl
theorem k275 : (Jvm.Cond.instanceMethod ({ cls := "DemandTerms", name := "deriveFrom", desc := "(I)Z" } : Jvm.MethodName)) ∈ AW := AW_t 275 (by decide +kernel) rfl
set_option maxRecDepth 100000 in
theorem k276 : (Jvm.Cond.code ({ cls := "DemandTerms", name := "deriveFrom", desc := "(I)Z" } : Jvm.MethodName) prog_1_method_27_code (6 : Nat) (Option.some Jvm.ClassFile.FieldType.boolean)) ∈ AW := AW_t 276 rfl rfl
theorem k277 : (Jvm.Cond.methodLink "DemandTerms" (190 : Nat) ({ cls := "DemandTerms$NeedRows", name := "versionsLike", desc := "(I)J" } : Jvm.MethodName)) ∈ AW := AW_t 277 (by decide +kernel) rfl
theorem k278 : (Jvm.Cond.instanceMethod ({ cls := "DemandTerms$NeedRows", name := "versionsLike", desc := "(I)J" } : Jvm.MethodName)) ∈ AW := AW_t 278 (by decide +kernel) rfl
theorem k279 : (Jvm.Cond.selects "DemandTerms$NeedRows" ({ cls := "DemandTerms$NeedRows", name := "versionsLike", desc := "(I)J" } : Jvm.MethodName) ({ cls := "DemandTerms$NeedRows", name := "versionsLike", desc := "(I)J" } : Jvm.MethodName)) ∈ AW := AW_t 279 (by decide +kernel) rfl
set_option maxRecDepth 100000 in
theorem k280 : (Jvm.Cond.code ({ cls := "DemandTerms$NeedRows", name := "versionsLike", desc := "(I)J" } : Jvm.MethodName) prog_4_method_7_code (5 : Nat) (Option.some Jvm.ClassFile.FieldType.long)) ∈ AW := AW_t 280 rfl rfl
theorem k281 : (Jvm.Cond.methodLink "DemandTerms$NeedRows" (36 : Nat) ({ cls := "DemandTerms$NeedRows", name := "alike", desc := "(II)Z" } : Jvm.MethodName)) ∈ AW := AW_t 281 (by decide +kernel) rfl
theorem k282 : (Jvm.Cond.methodLink "DemandTerms" (193 : Nat) ({ cls := "DemandTerms", name := "runAround", desc := "(JI)J" } : Jvm.MethodName)) ∈ AW := AW_t 282 (by decide +kernel) rfl
theorem k283 : (Jvm.Cond.static ({ cls := "DemandTerms", name := "runAround", desc := "(JI)J" } : Jvm.MethodName)) ∈ AW := AW_t 283 (by decide +kernel) rfl
set_option maxRecDepth 100000 in
theorem k284 : (Jvm.Cond.code ({ cls := "DemandTerms", name := "runAround", desc := "(JI)J" } : Jvm.MethodName) prog_1_method_40_code (6 : Nat) (Option.some Jvm.ClassFile.FieldType.long)) ∈ AW := AW_t 284 rfl rfl
theorem k285 : (Jvm.Cond.methodLink "DemandTerms" (111 : Nat) ({ cls := "DemandTerms$Clashes", name := "add", desc := "(IJ)I" } : Jvm.MethodName)) ∈ AW := AW_t 285 (by decide +kernel) rfl
theorem k286 : (Jvm.Cond.instanceMethod ({ cls := "DemandTerms$Clashes", name := "add", desc := "(IJ)I" } : Jvm.MethodName)) ∈ AW := AW_t 286 (by decide +kernel) rfl
theorem k287 : (Jvm.Cond.selects "DemandTerms$Clashes" ({ cls := "DemandTerms$Clashes", name := "add", desc := "(IJ)I" } : Jvm.MethodName) ({ cls := "DemandTerms$Clashes", name := "add", desc := "(IJ)I" } : Jvm.MethodName)) ∈ AW := AW_t 287 (by decide +kernel) rfl
set_option maxRecDepth 100000 in
theorem k288 : (Jvm.Cond.code ({ cls := "DemandTerms$Clashes", name := "add", desc := "(IJ)I" } : Jvm.MethodName) prog_2_method_4_code (4 : Nat) (Option.some Jvm.ClassFile.FieldType.int)) ∈ AW := AW_t 288 rfl rfl
theorem k289 : (Jvm.Cond.methodLink "DemandTerms" (197 : Nat) ({ cls := "DemandTerms$NeedRows", name := "nameOf", desc := "(I)I" } : Jvm.MethodName)) ∈ AW := AW_t 289 (by decide +kernel) rfl
theorem k290 : (Jvm.Cond.instanceMethod ({ cls := "DemandTerms$NeedRows", name := "nameOf", desc := "(I)I" } : Jvm.MethodName)) ∈ AW := AW_t 290 (by decide +kernel) rfl
theorem k291 : (Jvm.Cond.selects "DemandTerms$NeedRows" ({ cls := "DemandTerms$NeedRows", name := "nameOf", desc := "(I)I" } : Jvm.MethodName) ({ cls := "DemandTerms$NeedRows", name := "nameOf", desc := "(I)I" } : Jvm.MethodName)) ∈ AW := AW_t 291 (by decide +kernel) rfl
set_option maxRecDepth 100000 in
theorem k292 : (Jvm.Cond.code ({ cls := "DemandTerms$NeedRows", name := "nameOf", desc := "(I)I" } : Jvm.MethodName) prog_4_method_8_code (2 : Nat) (Option.some Jvm.ClassFile.FieldType.int)) ∈ AW := AW_t 292 rfl rfl
theorem k293 : (Jvm.Cond.methodLink "DemandTerms" (112 : Nat) ({ cls := "DemandTerms", name := "putPart", desc := "(IIJ)V" } : Jvm.MethodName)) ∈ AW := AW_t 293 (by decide +kernel) rfl
theorem k295 : (Jvm.Cond.instanceMethod ({ cls := "DemandTerms", name := "putPart", desc := "(IIJ)V" } : Jvm.MethodName)) ∈ AW := AW_t 295 (by decide +kernel) rfl
set_option maxRecDepth 100000 in
theorem k296 : (Jvm.Cond.code ({ cls := "DemandTerms", name := "putPart", desc := "(IIJ)V" } : Jvm.MethodName) prog_1_method_28_code (5 : Nat) (Option.none : Option Jvm.ClassFile.FieldType)) ∈ AW := AW_t 296 rfl rfl
theorem k297 : (Jvm.Cond.methodLink "DemandTerms" (204 : Nat) ({ cls := "DemandTerms$Clashes", name := "put", desc := "(IIJ)V" } : Jvm.MethodName)) ∈ AW := AW_t 297 (by decide +kernel) rfl
theorem k298 : (Jvm.Cond.instanceMethod ({ cls := "DemandTerms$Clashes", name := "put", desc := "(IIJ)V" } : Jvm.MethodName)) ∈ AW := AW_t 298 (by decide +kernel) rfl
theorem k299 : (Jvm.Cond.selects "DemandTerms$Clashes" ({ cls := "DemandTerms$Clashes", name := "put", desc := "(IIJ)V" } : Jvm.MethodName) ({ cls := "DemandTerms$Clashes", name := "put", desc := "(IIJ)V" } : Jvm.MethodName)) ∈ AW := AW_t 299 (by decide +kernel) rfl
set_option maxRecDepth 100000 in
theorem k300 : (Jvm.Cond.code ({ cls := "DemandTerms$Clashes", name := "put", desc := "(IIJ)V" } : Jvm.MethodName) prog_2_method_6_code (5 : Nat) (Option.none : Option Jvm.ClassFile.FieldType)) ∈ AW := AW_t 300 rfl rfl
theorem k301 : (Jvm.Cond.methodLink "DemandTerms" (198 : Nat) ({ cls := "DemandTerms$NeedRows", name := "otherOf", desc := "(I)I" } : Jvm.MethodName)) ∈ AW := AW_t 301 (by decide +kernel) rfl
theorem k302 : (Jvm.Cond.instanceMethod ({ cls := "DemandTerms$NeedRows", name := "otherOf", desc := "(I)I" } : Jvm.MethodName)) ∈ AW := AW_t 302 (by decide +kernel) rfl
theorem k303 : (Jvm.Cond.selects "DemandTerms$NeedRows" ({ cls := "DemandTerms$NeedRows", name := "otherOf", desc := "(I)I" } : Jvm.MethodName) ({ cls := "DemandTerms$NeedRows", name := "otherOf", desc := "(I)I" } : Jvm.MethodName)) ∈ AW := AW_t 303 (by decide +kernel) rfl
set_option maxRecDepth 100000 in
theorem k304 : (Jvm.Cond.code ({ cls := "DemandTerms$NeedRows", name := "otherOf", desc := "(I)I" } : Jvm.MethodName) prog_4_method_10_code (2 : Nat) (Option.some Jvm.ClassFile.FieldType.int)) ∈ AW := AW_t 304 rfl rfl
theorem k305 : (Jvm.Cond.methodLink "DemandTerms" (201 : Nat) ({ cls := "DemandTerms$NeedRows", name := "neededOf", desc := "(I)J" } : Jvm.MethodName)) ∈ AW := AW_t 305 (by decide +kernel) rfl
theorem k306 : (Jvm.Cond.instanceMethod ({ cls := "DemandTerms$NeedRows", name := "neededOf", desc := "(I)J" } : Jvm.MethodName)) ∈ AW := AW_t 306 (by decide +kernel) rfl
theorem k307 : (Jvm.Cond.selects "DemandTerms$NeedRows" ({ cls := "DemandTerms$NeedRows", name := "neededOf", desc := "(I)J" } : Jvm.MethodName) ({ cls := "DemandTerms$NeedRows", name := "neededOf", desc := "(I)J" } : Jvm.MethodName)) ∈ AW := AW_t 307 (by decide +kernel) rfl
set_option maxRecDepth 100000 in
theorem k308 : (Jvm.Cond.code ({ cls := "DemandTerms$NeedRows", name := "neededOf", desc := "(I)J" } : Jvm.MethodName) prog_4_method_11_code (2 : Nat) (Option.some Jvm.ClassFile.FieldType.long)) ∈ AW := AW_t 308 rfl rfl
theorem k309 : (Jvm.Cond.methodLink "DemandTerms" (107 : Nat) ({ cls := "DemandTerms$Clashes", name := "cutTo", desc := "(I)V" } : Jvm.MethodName)) ∈ AW := AW_t 309 (by decide +kernel) rfl
theorem k310 : (Jvm.Cond.instanceMethod ({ cls := "DemandTerms$Clashes", name := "cutTo", desc := "(I)V" } : Jvm.MethodName)) ∈ AW := AW_t 310 (by decide +kernel) rfl
theorem k311 : (Jvm.Cond.selects "DemandTerms$Clashes" ({ cls := "DemandTerms$Clashes", name := "cutTo", desc := "(I)V" } : Jvm.MethodName) ({ cls := "DemandTerms$Clashes", name := "cutTo", desc := "(I)V" } : Jvm.MethodName)) ∈ AW := AW_t 311 (by decide +kernel) rfl
set_option maxRecDepth 100000 in
theorem k312 : (Jvm.Cond.code ({ cls := "DemandTerms$Clashes", name := "cutTo", desc := "(I)V" } : Jvm.MethodName) prog_2_method_5_code (2 : Nat) (Option.none : Option Jvm.ClassFile.FieldType)) ∈ AW := AW_t 312 rfl rfl
theorem k313 : (Jvm.Cond.methodLink "DemandTermsLaw" (53 : Nat) ({ cls := "DemandTerms", name := "bar", desc := "(IJZ)I" } : Jvm.MethodName)) ∈ AW := AW_t 313 (by decide +kernel) rfl
theorem k314 : (Jvm.Cond.instanceMethod ({ cls := "DemandTerms", name := "bar", desc := "(IJZ)I" } : Jvm.MethodName)) ∈ AW := AW_t 314 (by decide +kernel) rfl
theorem k315 : (Jvm.Cond.selects "DemandTerms" ({ cls := "DemandTerms", name := "bar", desc := "(IJZ)I" } : Jvm.MethodName) ({ cls := "DemandTerms", name := "bar", desc := "(IJZ)I" } : Jvm.MethodName)) ∈ AW := AW_t 315 (by decide +kernel) rfl
set_option maxRecDepth 100000 in
theorem k316 : (Jvm.Cond.code ({ cls := "DemandTerms", name := "bar", desc := "(IJZ)I" } : Jvm.MethodName) prog_1_method_10_code (6 : Nat) (Option.some Jvm.ClassFile.FieldType.int)) ∈ AW := AW_t 316 rfl rfl
theorem k317 : (Jvm.Cond.methodLink "DemandTermsLaw" (57 : Nat) ({ cls := "DemandTerms", name := "learn", desc := "(III)I" } : Jvm.MethodName)) ∈ AW := AW_t 317 (by decide +kernel) rfl
theorem k318 : (Jvm.Cond.instanceMethod ({ cls := "DemandTerms", name := "learn", desc := "(III)I" } : Jvm.MethodName)) ∈ AW := AW_t 318 (by decide +kernel) rfl
theorem k319 : (Jvm.Cond.selects "DemandTerms" ({ cls := "DemandTerms", name := "learn", desc := "(III)I" } : Jvm.MethodName) ({ cls := "DemandTerms", name := "learn", desc := "(III)I" } : Jvm.MethodName)) ∈ AW := AW_t 319 (by decide +kernel) rfl
set_option maxRecDepth 100000 in
theorem k320 : (Jvm.Cond.code ({ cls := "DemandTerms", name := "learn", desc := "(III)I" } : Jvm.MethodName) prog_1_method_11_code (10 : Nat) (Option.some Jvm.ClassFile.FieldType.int)) ∈ AW := AW_t 320 rfl rfl
theorem k321 : (Jvm.Cond.methodLink "DemandTerms" (116 : Nat) ({ cls := "DemandTerms$Clashes", name := "holds", desc := "(II)Z" } : Jvm.MethodName)) ∈ AW := AW_t 321 (by decide +kernel) rfl
theorem k322 : (Jvm.Cond.instanceMethod ({ cls := "DemandTerms$Clashes", name := "holds", desc := "(II)Z" } : Jvm.MethodName)) ∈ AW := AW_t 322 (by decide +kernel) rfl
theorem k323 : (Jvm.Cond.selects "DemandTerms$Clashes" ({ cls := "DemandTerms$Clashes", name := "holds", desc := "(II)Z" } : Jvm.MethodName) ({ cls := "DemandTerms$Clashes", name := "holds", desc := "(II)Z" } : Jvm.MethodName)) ∈ AW := AW_t 323 (by decide +kernel) rfl
set_option maxRecDepth 100000 in
theorem k324 : (Jvm.Cond.code ({ cls := "DemandTerms$Clashes", name := "holds", desc := "(II)Z" } : Jvm.MethodName) prog_2_method_7_code (3 : Nat) (Option.some Jvm.ClassFile.FieldType.boolean)) ∈ AW := AW_t 324 rfl rfl
theorem k325 : (Jvm.Cond.methodLink "DemandTerms" (119 : Nat) ({ cls := "DemandTerms$Names", name := "size", desc := "()I" } : Jvm.MethodName)) ∈ AW := AW_t 325 (by decide +kernel) rfl
theorem k326 : (Jvm.Cond.instanceMethod ({ cls := "DemandTerms$Names", name := "size", desc := "()I" } : Jvm.MethodName)) ∈ AW := AW_t 326 (by decide +kernel) rfl
theorem k327 : (Jvm.Cond.selects "DemandTerms$Names" ({ cls := "DemandTerms$Names", name := "size", desc := "()I" } : Jvm.MethodName) ({ cls := "DemandTerms$Names", name := "size", desc := "()I" } : Jvm.MethodName)) ∈ AW := AW_t 327 (by decide +kernel) rfl
set_option maxRecDepth 100000 in
theorem k328 : (Jvm.Cond.code ({ cls := "DemandTerms$Names", name := "size", desc := "()I" } : Jvm.MethodName) prog_3_method_2_code (1 : Nat) (Option.some Jvm.ClassFile.FieldType.int)) ∈ AW := AW_t 328 rfl rfl
theorem k329 : (Jvm.Cond.methodLink "DemandTerms" (120 : Nat) ({ cls := "DemandTerms", name := "placesIn", desc := "(II)J" } : Jvm.MethodName)) ∈ AW := AW_t 329 (by decide +kernel) rfl
theorem k331 : (Jvm.Cond.instanceMethod ({ cls := "DemandTerms", name := "placesIn", desc := "(II)J" } : Jvm.MethodName)) ∈ AW := AW_t 331 (by decide +kernel) rfl
set_option maxRecDepth 100000 in
theorem k332 : (Jvm.Cond.code ({ cls := "DemandTerms", name := "placesIn", desc := "(II)J" } : Jvm.MethodName) prog_1_method_29_code (3 : Nat) (Option.some Jvm.ClassFile.FieldType.long)) ∈ AW := AW_t 332 rfl rfl
theorem k333 : (Jvm.Cond.methodLink "DemandTerms" (132 : Nat) ({ cls := "DemandTerms$Clashes", name := "placesOf", desc := "(II)J" } : Jvm.MethodName)) ∈ AW := AW_t 333 (by decide +kernel) rfl
theorem k334 : (Jvm.Cond.instanceMethod ({ cls := "DemandTerms$Clashes", name := "placesOf", desc := "(II)J" } : Jvm.MethodName)) ∈ AW := AW_t 334 (by decide +kernel) rfl
theorem k335 : (Jvm.Cond.selects "DemandTerms$Clashes" ({ cls := "DemandTerms$Clashes", name := "placesOf", desc := "(II)J" } : Jvm.MethodName) ({ cls := "DemandTerms$Clashes", name := "placesOf", desc := "(II)J" } : Jvm.MethodName)) ∈ AW := AW_t 335 (by decide +kernel) rfl
set_option maxRecDepth 100000 in
theorem k336 : (Jvm.Cond.code ({ cls := "DemandTerms$Clashes", name := "placesOf", desc := "(II)J" } : Jvm.MethodName) prog_2_method_8_code (3 : Nat) (Option.some Jvm.ClassFile.FieldType.long)) ∈ AW := AW_t 336 rfl rfl
theorem k337 : (Jvm.Cond.methodLink "DemandTerms$Clashes" (33 : Nat) ({ cls := "DemandTerms$Clashes", name := "holds", desc := "(II)Z" } : Jvm.MethodName)) ∈ AW := AW_t 337 (by decide +kernel) rfl
theorem k338 : (Jvm.Cond.methodLink "DemandTermsLaw" (62 : Nat) ({ cls := "DemandTerms", name := "count", desc := "()I" } : Jvm.MethodName)) ∈ AW := AW_t 338 (by decide +kernel) rfl
theorem k339 : (Jvm.Cond.instanceMethod ({ cls := "DemandTerms", name := "count", desc := "()I" } : Jvm.MethodName)) ∈ AW := AW_t 339 (by decide +kernel) rfl
theorem k340 : (Jvm.Cond.selects "DemandTerms" ({ cls := "DemandTerms", name := "count", desc := "()I" } : Jvm.MethodName) ({ cls := "DemandTerms", name := "count", desc := "()I" } : Jvm.MethodName)) ∈ AW := AW_t 340 (by decide +kernel) rfl
set_option maxRecDepth 100000 in
theorem k341 : (Jvm.Cond.code ({ cls := "DemandTerms", name := "count", desc := "()I" } : Jvm.MethodName) prog_1_method_12_code (1 : Nat) (Option.some Jvm.ClassFile.FieldType.int)) ∈ AW := AW_t 341 rfl rfl
theorem k342 : (Jvm.Cond.methodLink "DemandTermsLaw" (67 : Nat) ({ cls := "DemandTerms", name := "terms", desc := "(I)I" } : Jvm.MethodName)) ∈ AW := AW_t 342 (by decide +kernel) rfl
theorem k343 : (Jvm.Cond.instanceMethod ({ cls := "DemandTerms", name := "terms", desc := "(I)I" } : Jvm.MethodName)) ∈ AW := AW_t 343 (by decide +kernel) rfl
theorem k344 : (Jvm.Cond.selects "DemandTerms" ({ cls := "DemandTerms", name := "terms", desc := "(I)I" } : Jvm.MethodName) ({ cls := "DemandTerms", name := "terms", desc := "(I)I" } : Jvm.MethodName)) ∈ AW := AW_t 344 (by decide +kernel) rfl
set_option maxRecDepth 100000 in
theorem k345 : (Jvm.Cond.code ({ cls := "DemandTerms", name := "terms", desc := "(I)I" } : Jvm.MethodName) prog_1_method_13_code (2 : Nat) (Option.some Jvm.ClassFile.FieldType.int)) ∈ AW := AW_t 345 rfl rfl
theorem k346 : (Jvm.Cond.methodLink "DemandTerms" (124 : Nat) ({ cls := "DemandTerms$Clashes", name := "has", desc := "(I)Z" } : Jvm.MethodName)) ∈ AW := AW_t 346 (by decide +kernel) rfl
theorem k347 : (Jvm.Cond.methodLink "DemandTerms" (125 : Nat) ({ cls := "DemandTerms$Clashes", name := "partsOf", desc := "(I)I" } : Jvm.MethodName)) ∈ AW := AW_t 347 (by decide +kernel) rfl
theorem k348 : (Jvm.Cond.instanceMethod ({ cls := "DemandTerms$Clashes", name := "partsOf", desc := "(I)I" } : Jvm.MethodName)) ∈ AW := AW_t 348 (by decide +kernel) rfl
theorem k349 : (Jvm.Cond.selects "DemandTerms$Clashes" ({ cls := "DemandTerms$Clashes", name := "partsOf", desc := "(I)I" } : Jvm.MethodName) ({ cls := "DemandTerms$Clashes", name := "partsOf", desc := "(I)I" } : Jvm.MethodName)) ∈ AW := AW_t 349 (by decide +kernel) rfl
set_option maxRecDepth 100000 in
theorem k350 : (Jvm.Cond.code ({ cls := "DemandTerms$Clashes", name := "partsOf", desc := "(I)I" } : Jvm.MethodName) prog_2_method_9_code (2 : Nat) (Option.some Jvm.ClassFile.FieldType.int)) ∈ AW := AW_t 350 rfl rfl
theorem k351 : (Jvm.Cond.methodLink "DemandTerms$Clashes" (37 : Nat) ({ cls := "java/lang/Integer", name := "bitCount", desc := "(I)I" } : Jvm.MethodName)) ∈ AW := AW_t 351 (by decide +kernel) rfl
theorem k352 : (Jvm.Cond.static ({ cls := "java/lang/Integer", name := "bitCount", desc := "(I)I" } : Jvm.MethodName)) ∈ AW := AW_t 352 (by decide +kernel) rfl
set_option maxRecDepth 100000 in
theorem k353 : (Jvm.Cond.code ({ cls := "java/lang/Integer", name := "bitCount", desc := "(I)I" } : Jvm.MethodName) prog_9_method_49_code (1 : Nat) (Option.some Jvm.ClassFile.FieldType.int)) ∈ AW := AW_t 353 rfl rfl
theorem k354 : (Jvm.Cond.constant "java/lang/Integer" (265 : Nat) (1431655765 : Int32)) ∈ AW := AW_t 354 (by decide +kernel) rfl
theorem k355 : (Jvm.Cond.constant "java/lang/Integer" (266 : Nat) (858993459 : Int32)) ∈ AW := AW_t 355 (by decide +kernel) rfl
theorem k356 : (Jvm.Cond.constant "java/lang/Integer" (267 : Nat) (252645135 : Int32)) ∈ AW := AW_t 356 (by decide +kernel) rfl
theorem k357 : (Jvm.Cond.methodLink "DemandTermsLaw" (71 : Nat) ({ cls := "DemandTerms", name := "part", desc := "(III)I" } : Jvm.MethodName)) ∈ AW := AW_t 357 (by decide +kernel) rfl
theorem k358 : (Jvm.Cond.instanceMethod ({ cls := "DemandTerms", name := "part", desc := "(III)I" } : Jvm.MethodName)) ∈ AW := AW_t 358 (by decide +kernel) rfl
theorem k359 : (Jvm.Cond.selects "DemandTerms" ({ cls := "DemandTerms", name := "part", desc := "(III)I" } : Jvm.MethodName) ({ cls := "DemandTerms", name := "part", desc := "(III)I" } : Jvm.MethodName)) ∈ AW := AW_t 359 (by decide +kernel) rfl
set_option maxRecDepth 100000 in
theorem k360 : (Jvm.Cond.code ({ cls := "DemandTerms", name := "part", desc := "(III)I" } : Jvm.MethodName) prog_1_method_14_code (5 : Nat) (Option.some Jvm.ClassFile.FieldType.int)) ∈ AW := AW_t 360 rfl rfl
theorem k361 : (Jvm.Cond.methodLink "DemandTerms" (128 : Nat) ({ cls := "DemandTerms$Clashes", name := "nameAt", desc := "(II)I" } : Jvm.MethodName)) ∈ AW := AW_t 361 (by decide +kernel) rfl
theorem k362 : (Jvm.Cond.instanceMethod ({ cls := "DemandTerms$Clashes", name := "nameAt", desc := "(II)I" } : Jvm.MethodName)) ∈ AW := AW_t 362 (by decide +kernel) rfl
theorem k363 : (Jvm.Cond.selects "DemandTerms$Clashes" ({ cls := "DemandTerms$Clashes", name := "nameAt", desc := "(II)I" } : Jvm.MethodName) ({ cls := "DemandTerms$Clashes", name := "nameAt", desc := "(II)I" } : Jvm.MethodName)) ∈ AW := AW_t 363 (by decide +kernel) rfl
set_option maxRecDepth 100000 in
theorem k364 : (Jvm.Cond.code ({ cls := "DemandTerms$Clashes", name := "nameAt", desc := "(II)I" } : Jvm.MethodName) prog_2_method_10_code (4 : Nat) (Option.some Jvm.ClassFile.FieldType.int)) ∈ AW := AW_t 364 rfl rfl
theorem k365 : (Jvm.Cond.methodLink "DemandTerms$Clashes" (43 : Nat) ({ cls := "DemandTerms$Clashes", name := "indexOf", desc := "(II)I" } : Jvm.MethodName)) ∈ AW := AW_t 365 (by decide +kernel) rfl
theorem k366 : (Jvm.Cond.instanceMethod ({ cls := "DemandTerms$Clashes", name := "indexOf", desc := "(II)I" } : Jvm.MethodName)) ∈ AW := AW_t 366 (by decide +kernel) rfl
theorem k367 : (Jvm.Cond.selects "DemandTerms$Clashes" ({ cls := "DemandTerms$Clashes", name := "indexOf", desc := "(II)I" } : Jvm.MethodName) ({ cls := "DemandTerms$Clashes", name := "indexOf", desc := "(II)I" } : Jvm.MethodName)) ∈ AW := AW_t 367 (by decide +kernel) rfl
set_option maxRecDepth 100000 in
theorem k368 : (Jvm.Cond.code ({ cls := "DemandTerms$Clashes", name := "indexOf", desc := "(II)I" } : Jvm.MethodName) prog_2_method_11_code (3 : Nat) (Option.some Jvm.ClassFile.FieldType.int)) ∈ AW := AW_t 368 rfl rfl
theorem k369 : (Jvm.Cond.methodLink "DemandTermsLaw" (75 : Nat) ({ cls := "DemandTerms", name := "partSet", desc := "(II)J" } : Jvm.MethodName)) ∈ AW := AW_t 369 (by decide +kernel) rfl
theorem k370 : (Jvm.Cond.instanceMethod ({ cls := "DemandTerms", name := "partSet", desc := "(II)J" } : Jvm.MethodName)) ∈ AW := AW_t 370 (by decide +kernel) rfl
theorem k371 : (Jvm.Cond.selects "DemandTerms" ({ cls := "DemandTerms", name := "partSet", desc := "(II)J" } : Jvm.MethodName) ({ cls := "DemandTerms", name := "partSet", desc := "(II)J" } : Jvm.MethodName)) ∈ AW := AW_t 371 (by decide +kernel) rfl
set_option maxRecDepth 100000 in
theorem k372 : (Jvm.Cond.code ({ cls := "DemandTerms", name := "partSet", desc := "(II)J" } : Jvm.MethodName) prog_1_method_15_code (4 : Nat) (Option.some Jvm.ClassFile.FieldType.long)) ∈ AW := AW_t 372 rfl rfl
theorem k373 : (Jvm.Cond.methodLink "DemandTermsLaw" (80 : Nat) ({ cls := "DemandTerms", name := "choose", desc := "(I)Z" } : Jvm.MethodName)) ∈ AW := AW_t 373 (by decide +kernel) rfl
theorem k374 : (Jvm.Cond.instanceMethod ({ cls := "DemandTerms", name := "choose", desc := "(I)Z" } : Jvm.MethodName)) ∈ AW := AW_t 374 (by decide +kernel) rfl
theorem k375 : (Jvm.Cond.selects "DemandTerms" ({ cls := "DemandTerms", name := "choose", desc := "(I)Z" } : Jvm.MethodName) ({ cls := "DemandTerms", name := "choose", desc := "(I)Z" } : Jvm.MethodName)) ∈ AW := AW_t 375 (by decide +kernel) rfl
set_option maxRecDepth 100000 in
theorem k376 : (Jvm.Cond.code ({ cls := "DemandTerms", name := "choose", desc := "(I)Z" } : Jvm.MethodName) prog_1_method_16_code (2 : Nat) (Option.some Jvm.ClassFile.FieldType.boolean)) ∈ AW := AW_t 376 rfl rfl
theorem k377 : (Jvm.Cond.methodLink "DemandTerms" (134 : Nat) ({ cls := "DemandTerms", name := "narrowChoice", desc := "(IJ)V" } : Jvm.MethodName)) ∈ AW := AW_t 377 (by decide +kernel) rfl
theorem k379 : (Jvm.Cond.instanceMethod ({ cls := "DemandTerms", name := "narrowChoice", desc := "(IJ)V" } : Jvm.MethodName)) ∈ AW := AW_t 379 (by decide +kernel) rfl
set_option maxRecDepth 100000 in
theorem k380 : (Jvm.Cond.code ({ cls := "DemandTerms", name := "narrowChoice", desc := "(IJ)V" } : Jvm.MethodName) prog_1_method_30_code (4 : Nat) (Option.none : Option Jvm.ClassFile.FieldType)) ∈ AW := AW_t 380 rfl rfl
theorem k381 : (Jvm.Cond.methodLink "DemandTermsLaw" (85 : Nat) ({ cls := "DemandTerms", name := "forget", desc := "()V" } : Jvm.MethodName)) ∈ AW := AW_t 381 (by decide +kernel) rfl
theorem k382 : (Jvm.Cond.instanceMethod ({ cls := "DemandTerms", name := "forget", desc := "()V" } : Jvm.MethodName)) ∈ AW := AW_t 382 (by decide +kernel) rfl
theorem k383 : (Jvm.Cond.selects "DemandTerms" ({ cls := "DemandTerms", name := "forget", desc := "()V" } : Jvm.MethodName) ({ cls := "DemandTerms", name := "forget", desc := "()V" } : Jvm.MethodName)) ∈ AW := AW_t 383 (by decide +kernel) rfl
set_option maxRecDepth 100000 in
theorem k384 : (Jvm.Cond.code ({ cls := "DemandTerms", name := "forget", desc := "()V" } : Jvm.MethodName) prog_1_method_17_code (2 : Nat) (Option.none : Option Jvm.ClassFile.FieldType)) ∈ AW := AW_t 384 rfl rfl
theorem k385 : (Jvm.Cond.methodLink "DemandTermsLaw" (89 : Nat) ({ cls := "DemandTerms", name := "state", desc := "(I)I" } : Jvm.MethodName)) ∈ AW := AW_t 385 (by decide +kernel) rfl
theorem k386 : (Jvm.Cond.instanceMethod ({ cls := "DemandTerms", name := "state", desc := "(I)I" } : Jvm.MethodName)) ∈ AW := AW_t 386 (by decide +kernel) rfl
theorem k387 : (Jvm.Cond.selects "DemandTerms" ({ cls := "DemandTerms", name := "state", desc := "(I)I" } : Jvm.MethodName) ({ cls := "DemandTerms", name := "state", desc := "(I)I" } : Jvm.MethodName)) ∈ AW := AW_t 387 (by decide +kernel) rfl
set_option maxRecDepth 100000 in
theorem k388 : (Jvm.Cond.code ({ cls := "DemandTerms", name := "state", desc := "(I)I" } : Jvm.MethodName) prog_1_method_18_code (2 : Nat) (Option.some Jvm.ClassFile.FieldType.int)) ∈ AW := AW_t 388 rfl rfl
theorem k389 : (Jvm.Cond.methodLink "DemandTerms" (138 : Nat) ({ cls := "DemandTerms", name := "stateOf", desc := "(I)I" } : Jvm.MethodName)) ∈ AW := AW_t 389 (by decide +kernel) rfl
theorem k391 : (Jvm.Cond.instanceMethod ({ cls := "DemandTerms", name := "stateOf", desc := "(I)I" } : Jvm.MethodName)) ∈ AW := AW_t 391 (by decide +kernel) rfl
set_option maxRecDepth 100000 in
theorem k392 : (Jvm.Cond.code ({ cls := "DemandTerms", name := "stateOf", desc := "(I)I" } : Jvm.MethodName) prog_1_method_32_code (5 : Nat) (Option.some Jvm.ClassFile.FieldType.int)) ∈ AW := AW_t 392 rfl rfl
theorem k393 : (Jvm.Cond.methodLink "DemandTerms" (207 : Nat) ({ cls := "DemandTerms", name := "relationToChoice", desc := "(II)I" } : Jvm.MethodName)) ∈ AW := AW_t 393 (by decide +kernel) rfl
theorem k395 : (Jvm.Cond.instanceMethod ({ cls := "DemandTerms", name := "relationToChoice", desc := "(II)I" } : Jvm.MethodName)) ∈ AW := AW_t 395 (by decide +kernel) rfl
set_option maxRecDepth 100000 in
theorem k396 : (Jvm.Cond.code ({ cls := "DemandTerms", name := "relationToChoice", desc := "(II)I" } : Jvm.MethodName) prog_1_method_31_code (3 : Nat) (Option.some Jvm.ClassFile.FieldType.int)) ∈ AW := AW_t 396 rfl rfl
end
section
theorem k397 : (Jvm.Cond.methodLink "DemandTermsLaw" (93 : Nat) ({ cls := "DemandTerms", name := "forced", desc := "(I)I" } : Jvm.MethodName)) ∈ AW := AW_t 397 (by decide +kernel) rfl
theorem k398 : (Jvm.Cond.instanceMethod ({ cls := "DemandTerms", name := "forced", desc := "(I)I" } : Jvm.MethodName)) ∈ AW := AW_t 398 (by decide +kernel) rfl
theorem k399 : (Jvm.Cond.selects "DemandTerms" ({ cls := "DemandTerms", name := "forced", desc := "(I)I" } : Jvm.MethodName) ({ cls := "DemandTerms", name := "forced", desc := "(I)I" } : Jvm.MethodName)) ∈ AW := AW_t 399 (by decide +kernel) rfl
set_option maxRecDepth 100000 in
theorem k400 : (Jvm.Cond.code ({ cls := "DemandTerms", name := "forced", desc := "(I)I" } : Jvm.MethodName) prog_1_method_19_code (2 : Nat) (Option.some Jvm.ClassFile.FieldType.int)) ∈ AW := AW_t 400 rfl rfl
theorem k401 : (Jvm.Cond.methodLink "DemandTerms" (141 : Nat) ({ cls := "DemandTerms", name := "openName", desc := "(I)I" } : Jvm.MethodName)) ∈ AW := AW_t 401 (by decide +kernel) rfl
theorem k403 : (Jvm.Cond.instanceMethod ({ cls := "DemandTerms", name := "openName", desc := "(I)I" } : Jvm.MethodName)) ∈ AW := AW_t 403 (by decide +kernel) rfl
set_option maxRecDepth 100000 in
theorem k404 : (Jvm.Cond.code ({ cls := "DemandTerms", name := "openName", desc := "(I)I" } : Jvm.MethodName) prog_1_method_33_code (3 : Nat) (Option.some Jvm.ClassFile.FieldType.int)) ∈ AW := AW_t 404 rfl rfl
theorem k405 : (Jvm.Cond.methodLink "DemandTerms" (144 : Nat) ({ cls := "DemandTerms$Clashes", name := "indexOf", desc := "(II)I" } : Jvm.MethodName)) ∈ AW := AW_t 405 (by decide +kernel) rfl
theorem k406 : (Jvm.Cond.methodLink "DemandTermsLaw" (97 : Nat) ({ cls := "DemandTerms", name := "spread", desc := "()I" } : Jvm.MethodName)) ∈ AW := AW_t 406 (by decide +kernel) rfl
theorem k407 : (Jvm.Cond.instanceMethod ({ cls := "DemandTerms", name := "spread", desc := "()I" } : Jvm.MethodName)) ∈ AW := AW_t 407 (by decide +kernel) rfl
theorem k408 : (Jvm.Cond.selects "DemandTerms" ({ cls := "DemandTerms", name := "spread", desc := "()I" } : Jvm.MethodName) ({ cls := "DemandTerms", name := "spread", desc := "()I" } : Jvm.MethodName)) ∈ AW := AW_t 408 (by decide +kernel) rfl
set_option maxRecDepth 100000 in
theorem k409 : (Jvm.Cond.code ({ cls := "DemandTerms", name := "spread", desc := "()I" } : Jvm.MethodName) prog_1_method_20_code (5 : Nat) (Option.some Jvm.ClassFile.FieldType.int)) ∈ AW := AW_t 409 rfl rfl
theorem k410 : (Jvm.Cond.methodLink "DemandTerms" (147 : Nat) ({ cls := "DemandTerms", name := "firstKept", desc := "()I" } : Jvm.MethodName)) ∈ AW := AW_t 410 (by decide +kernel) rfl
theorem k412 : (Jvm.Cond.instanceMethod ({ cls := "DemandTerms", name := "firstKept", desc := "()I" } : Jvm.MethodName)) ∈ AW := AW_t 412 (by decide +kernel) rfl
set_option maxRecDepth 100000 in
theorem k413 : (Jvm.Cond.code ({ cls := "DemandTerms", name := "firstKept", desc := "()I" } : Jvm.MethodName) prog_1_method_35_code (2 : Nat) (Option.some Jvm.ClassFile.FieldType.int)) ∈ AW := AW_t 413 rfl rfl
theorem k414 : (Jvm.Cond.methodLink "DemandTerms" (150 : Nat) ({ cls := "DemandTerms", name := "force", desc := "(I)V" } : Jvm.MethodName)) ∈ AW := AW_t 414 (by decide +kernel) rfl
theorem k416 : (Jvm.Cond.instanceMethod ({ cls := "DemandTerms", name := "force", desc := "(I)V" } : Jvm.MethodName)) ∈ AW := AW_t 416 (by decide +kernel) rfl
set_option maxRecDepth 100000 in
theorem k417 : (Jvm.Cond.code ({ cls := "DemandTerms", name := "force", desc := "(I)V" } : Jvm.MethodName) prog_1_method_34_code (3 : Nat) (Option.none : Option Jvm.ClassFile.FieldType)) ∈ AW := AW_t 417 rfl rfl
theorem k418 : (Jvm.Cond.methodLink "DemandTermsLaw" (101 : Nat) ({ cls := "DemandTerms", name := "chosen", desc := "(II)I" } : Jvm.MethodName)) ∈ AW := AW_t 418 (by decide +kernel) rfl
theorem k419 : (Jvm.Cond.instanceMethod ({ cls := "DemandTerms", name := "chosen", desc := "(II)I" } : Jvm.MethodName)) ∈ AW := AW_t 419 (by decide +kernel) rfl
theorem k420 : (Jvm.Cond.selects "DemandTerms" ({ cls := "DemandTerms", name := "chosen", desc := "(II)I" } : Jvm.MethodName) ({ cls := "DemandTerms", name := "chosen", desc := "(II)I" } : Jvm.MethodName)) ∈ AW := AW_t 420 (by decide +kernel) rfl
set_option maxRecDepth 100000 in
theorem k421 : (Jvm.Cond.code ({ cls := "DemandTerms", name := "chosen", desc := "(II)I" } : Jvm.MethodName) prog_1_method_21_code (3 : Nat) (Option.some Jvm.ClassFile.FieldType.int)) ∈ AW := AW_t 421 rfl rfl
theorem k422 : (Jvm.Cond.methodLink "DemandTermsLaw" (105 : Nat) ({ cls := "DemandTerms", name := "chosenSet", desc := "(I)J" } : Jvm.MethodName)) ∈ AW := AW_t 422 (by decide +kernel) rfl
theorem k423 : (Jvm.Cond.instanceMethod ({ cls := "DemandTerms", name := "chosenSet", desc := "(I)J" } : Jvm.MethodName)) ∈ AW := AW_t 423 (by decide +kernel) rfl
theorem k424 : (Jvm.Cond.selects "DemandTerms" ({ cls := "DemandTerms", name := "chosenSet", desc := "(I)J" } : Jvm.MethodName) ({ cls := "DemandTerms", name := "chosenSet", desc := "(I)J" } : Jvm.MethodName)) ∈ AW := AW_t 424 (by decide +kernel) rfl
set_option maxRecDepth 100000 in
theorem k425 : (Jvm.Cond.code ({ cls := "DemandTerms", name := "chosenSet", desc := "(I)J" } : Jvm.MethodName) prog_1_method_22_code (2 : Nat) (Option.some Jvm.ClassFile.FieldType.long)) ∈ AW := AW_t 425 rfl rfl
theorem k426 : (Jvm.Cond.methodLink "DemandTermsLaw" (109 : Nat) ({ cls := "DemandTerms", name := "print", desc := "(I)I" } : Jvm.MethodName)) ∈ AW := AW_t 426 (by decide +kernel) rfl
theorem k427 : (Jvm.Cond.instanceMethod ({ cls := "DemandTerms", name := "print", desc := "(I)I" } : Jvm.MethodName)) ∈ AW := AW_t 427 (by decide +kernel) rfl
theorem k428 : (Jvm.Cond.selects "DemandTerms" ({ cls := "DemandTerms", name := "print", desc := "(I)I" } : Jvm.MethodName) ({ cls := "DemandTerms", name := "print", desc := "(I)I" } : Jvm.MethodName)) ∈ AW := AW_t 428 (by decide +kernel) rfl
set_option maxRecDepth 100000 in
theorem k429 : (Jvm.Cond.code ({ cls := "DemandTerms", name := "print", desc := "(I)I" } : Jvm.MethodName) prog_1_method_23_code (3 : Nat) (Option.some Jvm.ClassFile.FieldType.int)) ∈ AW := AW_t 429 rfl rfl
theorem k430 : (Jvm.Cond.methodLink "DemandTerms" (153 : Nat) ({ cls := "DemandTerms$Page", name := "clear", desc := "()V" } : Jvm.MethodName)) ∈ AW := AW_t 430 (by decide +kernel) rfl
theorem k431 : (Jvm.Cond.instanceMethod ({ cls := "DemandTerms$Page", name := "clear", desc := "()V" } : Jvm.MethodName)) ∈ AW := AW_t 431 (by decide +kernel) rfl
theorem k432 : (Jvm.Cond.selects "DemandTerms$Page" ({ cls := "DemandTerms$Page", name := "clear", desc := "()V" } : Jvm.MethodName) ({ cls := "DemandTerms$Page", name := "clear", desc := "()V" } : Jvm.MethodName)) ∈ AW := AW_t 432 (by decide +kernel) rfl
set_option maxRecDepth 100000 in
theorem k433 : (Jvm.Cond.code ({ cls := "DemandTerms$Page", name := "clear", desc := "()V" } : Jvm.MethodName) prog_5_method_3_code (1 : Nat) (Option.none : Option Jvm.ClassFile.FieldType)) ∈ AW := AW_t 433 rfl rfl
theorem k434 : (Jvm.Cond.methodLink "DemandTerms" (156 : Nat) ({ cls := "DemandTerms", name := "printPart", desc := "(IJ)V" } : Jvm.MethodName)) ∈ AW := AW_t 434 (by decide +kernel) rfl
theorem k436 : (Jvm.Cond.instanceMethod ({ cls := "DemandTerms", name := "printPart", desc := "(IJ)V" } : Jvm.MethodName)) ∈ AW := AW_t 436 (by decide +kernel) rfl
set_option maxRecDepth 100000 in
theorem k437 : (Jvm.Cond.code ({ cls := "DemandTerms", name := "printPart", desc := "(IJ)V" } : Jvm.MethodName) prog_1_method_36_code (4 : Nat) (Option.none : Option Jvm.ClassFile.FieldType)) ∈ AW := AW_t 437 rfl rfl
theorem k438 : (Jvm.Cond.methodLink "DemandTerms" (159 : Nat) ({ cls := "DemandTerms$Page", name := "length", desc := "()I" } : Jvm.MethodName)) ∈ AW := AW_t 438 (by decide +kernel) rfl
theorem k439 : (Jvm.Cond.instanceMethod ({ cls := "DemandTerms$Page", name := "length", desc := "()I" } : Jvm.MethodName)) ∈ AW := AW_t 439 (by decide +kernel) rfl
theorem k440 : (Jvm.Cond.selects "DemandTerms$Page" ({ cls := "DemandTerms$Page", name := "length", desc := "()I" } : Jvm.MethodName) ({ cls := "DemandTerms$Page", name := "length", desc := "()I" } : Jvm.MethodName)) ∈ AW := AW_t 440 (by decide +kernel) rfl
set_option maxRecDepth 100000 in
theorem k441 : (Jvm.Cond.code ({ cls := "DemandTerms$Page", name := "length", desc := "()I" } : Jvm.MethodName) prog_5_method_2_code (1 : Nat) (Option.some Jvm.ClassFile.FieldType.int)) ∈ AW := AW_t 441 rfl rfl
theorem k442 : (Jvm.Cond.methodLink "DemandTerms" (210 : Nat) ({ cls := "DemandTerms$Page", name := "put", desc := "(C)V" } : Jvm.MethodName)) ∈ AW := AW_t 442 (by decide +kernel) rfl
theorem k443 : (Jvm.Cond.instanceMethod ({ cls := "DemandTerms$Page", name := "put", desc := "(C)V" } : Jvm.MethodName)) ∈ AW := AW_t 443 (by decide +kernel) rfl
theorem k444 : (Jvm.Cond.selects "DemandTerms$Page" ({ cls := "DemandTerms$Page", name := "put", desc := "(C)V" } : Jvm.MethodName) ({ cls := "DemandTerms$Page", name := "put", desc := "(C)V" } : Jvm.MethodName)) ∈ AW := AW_t 444 (by decide +kernel) rfl
set_option maxRecDepth 100000 in
theorem k445 : (Jvm.Cond.code ({ cls := "DemandTerms$Page", name := "put", desc := "(C)V" } : Jvm.MethodName) prog_5_method_4_code (2 : Nat) (Option.none : Option Jvm.ClassFile.FieldType)) ∈ AW := AW_t 445 rfl rfl
theorem k446 : (Jvm.Cond.methodLink "DemandTerms" (213 : Nat) ({ cls := "DemandTerms$Page", name := "putRuns", desc := "(J)V" } : Jvm.MethodName)) ∈ AW := AW_t 446 (by decide +kernel) rfl
theorem k447 : (Jvm.Cond.instanceMethod ({ cls := "DemandTerms$Page", name := "putRuns", desc := "(J)V" } : Jvm.MethodName)) ∈ AW := AW_t 447 (by decide +kernel) rfl
theorem k448 : (Jvm.Cond.selects "DemandTerms$Page" ({ cls := "DemandTerms$Page", name := "putRuns", desc := "(J)V" } : Jvm.MethodName) ({ cls := "DemandTerms$Page", name := "putRuns", desc := "(J)V" } : Jvm.MethodName)) ∈ AW := AW_t 448 (by decide +kernel) rfl
set_option maxRecDepth 100000 in
theorem k449 : (Jvm.Cond.code ({ cls := "DemandTerms$Page", name := "putRuns", desc := "(J)V" } : Jvm.MethodName) prog_5_method_5_code (9 : Nat) (Option.none : Option Jvm.ClassFile.FieldType)) ∈ AW := AW_t 449 rfl rfl
theorem k450 : (Jvm.Cond.constantLong "DemandTerms$Page" (19 : Nat) (-1 : Int64)) ∈ AW := AW_t 450 (by decide +kernel) rfl
theorem k452 : (Jvm.Cond.methodLink "DemandTerms$Page" (25 : Nat) ({ cls := "DemandTerms$Page", name := "put", desc := "(C)V" } : Jvm.MethodName)) ∈ AW := AW_t 452 (by decide +kernel) rfl
theorem k453 : (Jvm.Cond.methodLink "DemandTerms$Page" (29 : Nat) ({ cls := "DemandTerms$Page", name := "putNumber", desc := "(I)V" } : Jvm.MethodName)) ∈ AW := AW_t 453 (by decide +kernel) rfl
theorem k455 : (Jvm.Cond.instanceMethod ({ cls := "DemandTerms$Page", name := "putNumber", desc := "(I)V" } : Jvm.MethodName)) ∈ AW := AW_t 455 (by decide +kernel) rfl
set_option maxRecDepth 100000 in
theorem k456 : (Jvm.Cond.code ({ cls := "DemandTerms$Page", name := "putNumber", desc := "(I)V" } : Jvm.MethodName) prog_5_method_6_code (2 : Nat) (Option.none : Option Jvm.ClassFile.FieldType)) ∈ AW := AW_t 456 rfl rfl
theorem k457 : (Jvm.Cond.methodLink "DemandTermsLaw" (113 : Nat) ({ cls := "DemandTerms", name := "at", desc := "(I)I" } : Jvm.MethodName)) ∈ AW := AW_t 457 (by decide +kernel) rfl
theorem k458 : (Jvm.Cond.instanceMethod ({ cls := "DemandTerms", name := "at", desc := "(I)I" } : Jvm.MethodName)) ∈ AW := AW_t 458 (by decide +kernel) rfl
theorem k459 : (Jvm.Cond.selects "DemandTerms" ({ cls := "DemandTerms", name := "at", desc := "(I)I" } : Jvm.MethodName) ({ cls := "DemandTerms", name := "at", desc := "(I)I" } : Jvm.MethodName)) ∈ AW := AW_t 459 (by decide +kernel) rfl
set_option maxRecDepth 100000 in
theorem k460 : (Jvm.Cond.code ({ cls := "DemandTerms", name := "at", desc := "(I)I" } : Jvm.MethodName) prog_1_method_24_code (2 : Nat) (Option.some Jvm.ClassFile.FieldType.int)) ∈ AW := AW_t 460 rfl rfl
theorem k461 : (Jvm.Cond.methodLink "DemandTerms" (162 : Nat) ({ cls := "DemandTerms$Page", name := "signAt", desc := "(I)I" } : Jvm.MethodName)) ∈ AW := AW_t 461 (by decide +kernel) rfl
theorem k462 : (Jvm.Cond.instanceMethod ({ cls := "DemandTerms$Page", name := "signAt", desc := "(I)I" } : Jvm.MethodName)) ∈ AW := AW_t 462 (by decide +kernel) rfl
theorem k463 : (Jvm.Cond.selects "DemandTerms$Page" ({ cls := "DemandTerms$Page", name := "signAt", desc := "(I)I" } : Jvm.MethodName) ({ cls := "DemandTerms$Page", name := "signAt", desc := "(I)I" } : Jvm.MethodName)) ∈ AW := AW_t 463 (by decide +kernel) rfl
set_option maxRecDepth 100000 in
theorem k464 : (Jvm.Cond.code ({ cls := "DemandTerms$Page", name := "signAt", desc := "(I)I" } : Jvm.MethodName) prog_5_method_7_code (2 : Nat) (Option.some Jvm.ClassFile.FieldType.int)) ∈ AW := AW_t 464 rfl rfl
theorem k465 : (Jvm.Cond.classLink "DemandTermsLaw" (10 : Nat) "DemandTermsModel") ∈ AW := AW_t 465 (by decide +kernel) rfl
theorem k466 : (Jvm.Cond.instantiable "DemandTermsModel" (22 : Nat)) ∈ AW := AW_t 466 (by decide +kernel) rfl
theorem k467 : (Jvm.Cond.methodLink "DemandTermsLaw" (12 : Nat) ({ cls := "DemandTermsModel", name := "<init>", desc := "()V" } : Jvm.MethodName)) ∈ AW := AW_t 467 (by decide +kernel) rfl
theorem k468 : (Jvm.Cond.instanceMethod ({ cls := "DemandTermsModel", name := "<init>", desc := "()V" } : Jvm.MethodName)) ∈ AW := AW_t 468 (by decide +kernel) rfl
set_option maxRecDepth 100000 in
theorem k469 : (Jvm.Cond.code ({ cls := "DemandTermsModel", name := "<init>", desc := "()V" } : Jvm.MethodName) prog_8_method_1_code (1 : Nat) (Option.none : Option Jvm.ClassFile.FieldType)) ∈ AW := AW_t 469 rfl rfl
theorem k470 : (Jvm.Cond.methodLink "DemandTermsModel" (1 : Nat) ({ cls := "java/lang/Object", name := "<init>", desc := "()V" } : Jvm.MethodName)) ∈ AW := AW_t 470 (by decide +kernel) rfl
theorem k471 : (Jvm.Cond.constant "DemandTermsModel" (16 : Nat) (265580 : Int32)) ∈ AW := AW_t 471 (by decide +kernel) rfl
theorem k472 : (Jvm.Cond.fieldLink "DemandTermsModel" (61 : Nat) "DemandTermsModel" "code" "I") ∈ AW := AW_t 472 (by decide +kernel) rfl
theorem k473 : (Jvm.Cond.fieldLink "DemandTermsModel" (7 : Nat) "DemandTermsModel" "versions" "[I") ∈ AW := AW_t 473 (by decide +kernel) rfl
theorem k474 : (Jvm.Cond.fieldLink "DemandTermsModel" (65 : Nat) "DemandTermsModel" "names" "I") ∈ AW := AW_t 474 (by decide +kernel) rfl
theorem k475 : (Jvm.Cond.fieldLink "DemandTermsModel" (68 : Nat) "DemandTermsModel" "terms" "I") ∈ AW := AW_t 475 (by decide +kernel) rfl
theorem k476 : (Jvm.Cond.fieldLink "DemandTermsModel" (71 : Nat) "DemandTermsModel" "bars" "I") ∈ AW := AW_t 476 (by decide +kernel) rfl
theorem k477 : (Jvm.Cond.fieldLink "DemandTermsModel" (118 : Nat) "DemandTermsModel" "needs" "I") ∈ AW := AW_t 477 (by decide +kernel) rfl
theorem k478 : (Jvm.Cond.fieldLink "DemandTermsModel" (13 : Nat) "DemandTermsModel" "nameOf" "[I") ∈ AW := AW_t 478 (by decide +kernel) rfl
theorem k479 : (Jvm.Cond.fieldLink "DemandTermsModel" (17 : Nat) "DemandTermsModel" "says" "[Z") ∈ AW := AW_t 479 (by decide +kernel) rfl
theorem k480 : (Jvm.Cond.fieldLink "DemandTermsModel" (21 : Nat) "DemandTermsModel" "parts" "[I") ∈ AW := AW_t 480 (by decide +kernel) rfl
theorem k481 : (Jvm.Cond.fieldLink "DemandTermsModel" (24 : Nat) "DemandTermsModel" "dName" "[I") ∈ AW := AW_t 481 (by decide +kernel) rfl
theorem k482 : (Jvm.Cond.fieldLink "DemandTermsModel" (27 : Nat) "DemandTermsModel" "dFirst" "[I") ∈ AW := AW_t 482 (by decide +kernel) rfl
theorem k483 : (Jvm.Cond.fieldLink "DemandTermsModel" (30 : Nat) "DemandTermsModel" "dLast" "[I") ∈ AW := AW_t 483 (by decide +kernel) rfl
theorem k484 : (Jvm.Cond.fieldLink "DemandTermsModel" (33 : Nat) "DemandTermsModel" "dOther" "[I") ∈ AW := AW_t 484 (by decide +kernel) rfl
theorem k485 : (Jvm.Cond.fieldLink "DemandTermsModel" (36 : Nat) "DemandTermsModel" "dKind" "[I") ∈ AW := AW_t 485 (by decide +kernel) rfl
theorem k486 : (Jvm.Cond.fieldLink "DemandTermsModel" (39 : Nat) "DemandTermsModel" "dSet" "[J") ∈ AW := AW_t 486 (by decide +kernel) rfl
theorem k487 : (Jvm.Cond.fieldLink "DemandTermsModel" (43 : Nat) "DemandTermsModel" "nName" "[I") ∈ AW := AW_t 487 (by decide +kernel) rfl
theorem k488 : (Jvm.Cond.fieldLink "DemandTermsModel" (46 : Nat) "DemandTermsModel" "nVersion" "[I") ∈ AW := AW_t 488 (by decide +kernel) rfl
theorem k489 : (Jvm.Cond.fieldLink "DemandTermsModel" (49 : Nat) "DemandTermsModel" "nOther" "[I") ∈ AW := AW_t 489 (by decide +kernel) rfl
theorem k490 : (Jvm.Cond.fieldLink "DemandTermsModel" (52 : Nat) "DemandTermsModel" "nKind" "[I") ∈ AW := AW_t 490 (by decide +kernel) rfl
theorem k491 : (Jvm.Cond.fieldLink "DemandTermsModel" (55 : Nat) "DemandTermsModel" "nSet" "[J") ∈ AW := AW_t 491 (by decide +kernel) rfl
theorem k492 : (Jvm.Cond.fieldLink "DemandTermsModel" (58 : Nat) "DemandTermsModel" "out" "[I") ∈ AW := AW_t 492 (by decide +kernel) rfl
theorem k493 : (Jvm.Cond.fieldLink "DemandTermsModel" (177 : Nat) "DemandTermsModel" "printed" "I") ∈ AW := AW_t 493 (by decide +kernel) rfl
theorem k539 : (Jvm.Cond.arrayClass Jvm.ClassFile.FieldType.boolean) ∈ AW := AW_t 539 (by decide +kernel) rfl
theorem k540 : (Jvm.Cond.methodLink "DemandTermsLaw" (17 : Nat) ({ cls := "DemandTermsModel", name := "versions", desc := "(I)I" } : Jvm.MethodName)) ∈ AW := AW_t 540 (by decide +kernel) rfl
theorem k541 : (Jvm.Cond.instanceMethod ({ cls := "DemandTermsModel", name := "versions", desc := "(I)I" } : Jvm.MethodName)) ∈ AW := AW_t 541 (by decide +kernel) rfl
theorem k542 : (Jvm.Cond.selects "DemandTermsModel" ({ cls := "DemandTermsModel", name := "versions", desc := "(I)I" } : Jvm.MethodName) ({ cls := "DemandTermsModel", name := "versions", desc := "(I)I" } : Jvm.MethodName)) ∈ AW := AW_t 542 (by decide +kernel) rfl
set_option maxRecDepth 100000 in
theorem k543 : (Jvm.Cond.code ({ cls := "DemandTermsModel", name := "versions", desc := "(I)I" } : Jvm.MethodName) prog_8_method_6_code (2 : Nat) (Option.some Jvm.ClassFile.FieldType.int)) ∈ AW := AW_t 543 rfl rfl
theorem k544 : (Jvm.Cond.methodLink "DemandTermsModel" (74 : Nat) ({ cls := "DemandTermsModel", name := "full", desc := "(I)V" } : Jvm.MethodName)) ∈ AW := AW_t 544 (by decide +kernel) rfl
theorem k546 : (Jvm.Cond.instanceMethod ({ cls := "DemandTermsModel", name := "full", desc := "(I)V" } : Jvm.MethodName)) ∈ AW := AW_t 546 (by decide +kernel) rfl
set_option maxRecDepth 100000 in
theorem k547 : (Jvm.Cond.code ({ cls := "DemandTermsModel", name := "full", desc := "(I)V" } : Jvm.MethodName) prog_8_method_9_code (3 : Nat) (Option.none : Option Jvm.ClassFile.FieldType)) ∈ AW := AW_t 547 rfl rfl
theorem k548 : (Jvm.Cond.methodLink "DemandTermsModel" (78 : Nat) ({ cls := "DemandTermsModel", name := "tell", desc := "(IIZ)V" } : Jvm.MethodName)) ∈ AW := AW_t 548 (by decide +kernel) rfl
theorem k550 : (Jvm.Cond.instanceMethod ({ cls := "DemandTermsModel", name := "tell", desc := "(IIZ)V" } : Jvm.MethodName)) ∈ AW := AW_t 550 (by decide +kernel) rfl
set_option maxRecDepth 100000 in
theorem k551 : (Jvm.Cond.code ({ cls := "DemandTermsModel", name := "tell", desc := "(IIZ)V" } : Jvm.MethodName) prog_8_method_8_code (4 : Nat) (Option.none : Option Jvm.ClassFile.FieldType)) ∈ AW := AW_t 551 rfl rfl
theorem k552 : (Jvm.Cond.methodLink "DemandTermsLaw" (24 : Nat) ({ cls := "DemandTermsModel", name := "term", desc := "(IJZ)I" } : Jvm.MethodName)) ∈ AW := AW_t 552 (by decide +kernel) rfl
theorem k553 : (Jvm.Cond.instanceMethod ({ cls := "DemandTermsModel", name := "term", desc := "(IJZ)I" } : Jvm.MethodName)) ∈ AW := AW_t 553 (by decide +kernel) rfl
theorem k554 : (Jvm.Cond.selects "DemandTermsModel" ({ cls := "DemandTermsModel", name := "term", desc := "(IJZ)I" } : Jvm.MethodName) ({ cls := "DemandTermsModel", name := "term", desc := "(IJZ)I" } : Jvm.MethodName)) ∈ AW := AW_t 554 (by decide +kernel) rfl
set_option maxRecDepth 100000 in
theorem k555 : (Jvm.Cond.code ({ cls := "DemandTermsModel", name := "term", desc := "(IJZ)I" } : Jvm.MethodName) prog_8_method_18_code (5 : Nat) (Option.some Jvm.ClassFile.FieldType.int)) ∈ AW := AW_t 555 rfl rfl
theorem k556 : (Jvm.Cond.methodLink "DemandTermsModel" (93 : Nat) ({ cls := "DemandTermsModel", name := "isName", desc := "(I)Z" } : Jvm.MethodName)) ∈ AW := AW_t 556 (by decide +kernel) rfl
theorem k558 : (Jvm.Cond.instanceMethod ({ cls := "DemandTermsModel", name := "isName", desc := "(I)Z" } : Jvm.MethodName)) ∈ AW := AW_t 558 (by decide +kernel) rfl
set_option maxRecDepth 100000 in
theorem k559 : (Jvm.Cond.code ({ cls := "DemandTermsModel", name := "isName", desc := "(I)Z" } : Jvm.MethodName) prog_8_method_3_code (2 : Nat) (Option.some Jvm.ClassFile.FieldType.boolean)) ∈ AW := AW_t 559 rfl rfl
theorem k560 : (Jvm.Cond.methodLink "DemandTermsModel" (96 : Nat) ({ cls := "DemandTermsModel", name := "make", desc := "(IIJZ)V" } : Jvm.MethodName)) ∈ AW := AW_t 560 (by decide +kernel) rfl
theorem k562 : (Jvm.Cond.instanceMethod ({ cls := "DemandTermsModel", name := "make", desc := "(IIJZ)V" } : Jvm.MethodName)) ∈ AW := AW_t 562 (by decide +kernel) rfl
set_option maxRecDepth 100000 in
theorem k563 : (Jvm.Cond.code ({ cls := "DemandTermsModel", name := "make", desc := "(IIJZ)V" } : Jvm.MethodName) prog_8_method_10_code (7 : Nat) (Option.none : Option Jvm.ClassFile.FieldType)) ∈ AW := AW_t 563 rfl rfl
theorem k564 : (Jvm.Cond.methodLink "DemandTermsLaw" (29 : Nat) ({ cls := "DemandTermsModel", name := "both", desc := "(IIZ)I" } : Jvm.MethodName)) ∈ AW := AW_t 564 (by decide +kernel) rfl
theorem k565 : (Jvm.Cond.instanceMethod ({ cls := "DemandTermsModel", name := "both", desc := "(IIZ)I" } : Jvm.MethodName)) ∈ AW := AW_t 565 (by decide +kernel) rfl
theorem k566 : (Jvm.Cond.selects "DemandTermsModel" ({ cls := "DemandTermsModel", name := "both", desc := "(IIZ)I" } : Jvm.MethodName) ({ cls := "DemandTermsModel", name := "both", desc := "(IIZ)I" } : Jvm.MethodName)) ∈ AW := AW_t 566 (by decide +kernel) rfl
set_option maxRecDepth 100000 in
theorem k567 : (Jvm.Cond.code ({ cls := "DemandTermsModel", name := "both", desc := "(IIZ)I" } : Jvm.MethodName) prog_8_method_19_code (4 : Nat) (Option.some Jvm.ClassFile.FieldType.int)) ∈ AW := AW_t 567 rfl rfl
theorem k568 : (Jvm.Cond.methodLink "DemandTermsModel" (100 : Nat) ({ cls := "DemandTermsModel", name := "isTerm", desc := "(I)Z" } : Jvm.MethodName)) ∈ AW := AW_t 568 (by decide +kernel) rfl
theorem k570 : (Jvm.Cond.instanceMethod ({ cls := "DemandTermsModel", name := "isTerm", desc := "(I)Z" } : Jvm.MethodName)) ∈ AW := AW_t 570 (by decide +kernel) rfl
set_option maxRecDepth 100000 in
theorem k571 : (Jvm.Cond.code ({ cls := "DemandTermsModel", name := "isTerm", desc := "(I)Z" } : Jvm.MethodName) prog_8_method_4_code (2 : Nat) (Option.some Jvm.ClassFile.FieldType.boolean)) ∈ AW := AW_t 571 rfl rfl
theorem k572 : (Jvm.Cond.methodLink "DemandTermsModel" (103 : Nat) ({ cls := "DemandTermsModel", name := "join", desc := "(IIIZ)V" } : Jvm.MethodName)) ∈ AW := AW_t 572 (by decide +kernel) rfl
theorem k574 : (Jvm.Cond.instanceMethod ({ cls := "DemandTermsModel", name := "join", desc := "(IIIZ)V" } : Jvm.MethodName)) ∈ AW := AW_t 574 (by decide +kernel) rfl
set_option maxRecDepth 100000 in
theorem k575 : (Jvm.Cond.code ({ cls := "DemandTermsModel", name := "join", desc := "(IIIZ)V" } : Jvm.MethodName) prog_8_method_12_code (6 : Nat) (Option.none : Option Jvm.ClassFile.FieldType)) ∈ AW := AW_t 575 rfl rfl
theorem k576 : (Jvm.Cond.methodLink "DemandTermsModel" (82 : Nat) ({ cls := "DemandTermsModel", name := "isSaid", desc := "(II)Z" } : Jvm.MethodName)) ∈ AW := AW_t 576 (by decide +kernel) rfl
theorem k578 : (Jvm.Cond.instanceMethod ({ cls := "DemandTermsModel", name := "isSaid", desc := "(II)Z" } : Jvm.MethodName)) ∈ AW := AW_t 578 (by decide +kernel) rfl
set_option maxRecDepth 100000 in
theorem k579 : (Jvm.Cond.code ({ cls := "DemandTermsModel", name := "isSaid", desc := "(II)Z" } : Jvm.MethodName) prog_8_method_7_code (3 : Nat) (Option.some Jvm.ClassFile.FieldType.boolean)) ∈ AW := AW_t 579 rfl rfl
theorem k580 : (Jvm.Cond.methodLink "DemandTermsLaw" (34 : Nat) ({ cls := "DemandTermsModel", name := "relate", desc := "(II)I" } : Jvm.MethodName)) ∈ AW := AW_t 580 (by decide +kernel) rfl
theorem k581 : (Jvm.Cond.instanceMethod ({ cls := "DemandTermsModel", name := "relate", desc := "(II)I" } : Jvm.MethodName)) ∈ AW := AW_t 581 (by decide +kernel) rfl
theorem k582 : (Jvm.Cond.selects "DemandTermsModel" ({ cls := "DemandTermsModel", name := "relate", desc := "(II)I" } : Jvm.MethodName) ({ cls := "DemandTermsModel", name := "relate", desc := "(II)I" } : Jvm.MethodName)) ∈ AW := AW_t 582 (by decide +kernel) rfl
set_option maxRecDepth 100000 in
theorem k583 : (Jvm.Cond.code ({ cls := "DemandTermsModel", name := "relate", desc := "(II)I" } : Jvm.MethodName) prog_8_method_21_code (3 : Nat) (Option.some Jvm.ClassFile.FieldType.int)) ∈ AW := AW_t 583 rfl rfl
theorem k584 : (Jvm.Cond.methodLink "DemandTermsModel" (107 : Nat) ({ cls := "DemandTermsModel", name := "relation", desc := "(II)I" } : Jvm.MethodName)) ∈ AW := AW_t 584 (by decide +kernel) rfl
theorem k586 : (Jvm.Cond.instanceMethod ({ cls := "DemandTermsModel", name := "relation", desc := "(II)I" } : Jvm.MethodName)) ∈ AW := AW_t 586 (by decide +kernel) rfl
set_option maxRecDepth 100000 in
theorem k587 : (Jvm.Cond.code ({ cls := "DemandTermsModel", name := "relation", desc := "(II)I" } : Jvm.MethodName) prog_8_method_20_code (6 : Nat) (Option.some Jvm.ClassFile.FieldType.int)) ∈ AW := AW_t 587 rfl rfl
theorem k588 : (Jvm.Cond.methodLink "DemandTermsLaw" (38 : Nat) ({ cls := "DemandTermsModel", name := "about", desc := "(II)I" } : Jvm.MethodName)) ∈ AW := AW_t 588 (by decide +kernel) rfl
theorem k589 : (Jvm.Cond.instanceMethod ({ cls := "DemandTermsModel", name := "about", desc := "(II)I" } : Jvm.MethodName)) ∈ AW := AW_t 589 (by decide +kernel) rfl
theorem k590 : (Jvm.Cond.selects "DemandTermsModel" ({ cls := "DemandTermsModel", name := "about", desc := "(II)I" } : Jvm.MethodName) ({ cls := "DemandTermsModel", name := "about", desc := "(II)I" } : Jvm.MethodName)) ∈ AW := AW_t 590 (by decide +kernel) rfl
set_option maxRecDepth 100000 in
theorem k591 : (Jvm.Cond.code ({ cls := "DemandTermsModel", name := "about", desc := "(II)I" } : Jvm.MethodName) prog_8_method_22_code (3 : Nat) (Option.some Jvm.ClassFile.FieldType.int)) ∈ AW := AW_t 591 rfl rfl
theorem k592 : (Jvm.Cond.methodLink "DemandTermsModel" (111 : Nat) ({ cls := "DemandTermsModel", name := "aboutOf", desc := "(II)I" } : Jvm.MethodName)) ∈ AW := AW_t 592 (by decide +kernel) rfl
theorem k594 : (Jvm.Cond.instanceMethod ({ cls := "DemandTermsModel", name := "aboutOf", desc := "(II)I" } : Jvm.MethodName)) ∈ AW := AW_t 594 (by decide +kernel) rfl
set_option maxRecDepth 100000 in
theorem k595 : (Jvm.Cond.code ({ cls := "DemandTermsModel", name := "aboutOf", desc := "(II)I" } : Jvm.MethodName) prog_8_method_17_code (5 : Nat) (Option.some Jvm.ClassFile.FieldType.int)) ∈ AW := AW_t 595 rfl rfl
theorem k596 : (Jvm.Cond.methodLink "DemandTermsModel" (90 : Nat) ({ cls := "DemandTermsModel", name := "isListed", desc := "(II)Z" } : Jvm.MethodName)) ∈ AW := AW_t 596 (by decide +kernel) rfl
theorem k598 : (Jvm.Cond.instanceMethod ({ cls := "DemandTermsModel", name := "isListed", desc := "(II)Z" } : Jvm.MethodName)) ∈ AW := AW_t 598 (by decide +kernel) rfl
set_option maxRecDepth 100000 in
theorem k599 : (Jvm.Cond.code ({ cls := "DemandTermsModel", name := "isListed", desc := "(II)Z" } : Jvm.MethodName) prog_8_method_15_code (3 : Nat) (Option.some Jvm.ClassFile.FieldType.boolean)) ∈ AW := AW_t 599 rfl rfl
theorem k600 : (Jvm.Cond.methodLink "DemandTermsModel" (86 : Nat) ({ cls := "DemandTermsModel", name := "isWanted", desc := "(I)Z" } : Jvm.MethodName)) ∈ AW := AW_t 600 (by decide +kernel) rfl
theorem k602 : (Jvm.Cond.instanceMethod ({ cls := "DemandTermsModel", name := "isWanted", desc := "(I)Z" } : Jvm.MethodName)) ∈ AW := AW_t 602 (by decide +kernel) rfl
set_option maxRecDepth 100000 in
theorem k603 : (Jvm.Cond.code ({ cls := "DemandTermsModel", name := "isWanted", desc := "(I)Z" } : Jvm.MethodName) prog_8_method_14_code (2 : Nat) (Option.some Jvm.ClassFile.FieldType.boolean)) ∈ AW := AW_t 603 rfl rfl
theorem k604 : (Jvm.Cond.methodLink "DemandTermsLaw" (43 : Nat) ({ cls := "DemandTermsModel", name := "set", desc := "(I)J" } : Jvm.MethodName)) ∈ AW := AW_t 604 (by decide +kernel) rfl
theorem k605 : (Jvm.Cond.instanceMethod ({ cls := "DemandTermsModel", name := "set", desc := "(I)J" } : Jvm.MethodName)) ∈ AW := AW_t 605 (by decide +kernel) rfl
theorem k606 : (Jvm.Cond.selects "DemandTermsModel" ({ cls := "DemandTermsModel", name := "set", desc := "(I)J" } : Jvm.MethodName) ({ cls := "DemandTermsModel", name := "set", desc := "(I)J" } : Jvm.MethodName)) ∈ AW := AW_t 606 (by decide +kernel) rfl
set_option maxRecDepth 100000 in
theorem k607 : (Jvm.Cond.code ({ cls := "DemandTermsModel", name := "set", desc := "(I)J" } : Jvm.MethodName) prog_8_method_23_code (2 : Nat) (Option.some Jvm.ClassFile.FieldType.long)) ∈ AW := AW_t 607 rfl rfl
theorem k608 : (Jvm.Cond.methodLink "DemandTermsModel" (114 : Nat) ({ cls := "DemandTermsModel", name := "setOf", desc := "(I)J" } : Jvm.MethodName)) ∈ AW := AW_t 608 (by decide +kernel) rfl
theorem k610 : (Jvm.Cond.instanceMethod ({ cls := "DemandTermsModel", name := "setOf", desc := "(I)J" } : Jvm.MethodName)) ∈ AW := AW_t 610 (by decide +kernel) rfl
set_option maxRecDepth 100000 in
theorem k611 : (Jvm.Cond.code ({ cls := "DemandTermsModel", name := "setOf", desc := "(I)J" } : Jvm.MethodName) prog_8_method_16_code (5 : Nat) (Option.some Jvm.ClassFile.FieldType.long)) ∈ AW := AW_t 611 rfl rfl
theorem k612 : (Jvm.Cond.methodLink "DemandTermsLaw" (48 : Nat) ({ cls := "DemandTermsModel", name := "needs", desc := "(IIIJI)Z" } : Jvm.MethodName)) ∈ AW := AW_t 612 (by decide +kernel) rfl
theorem k613 : (Jvm.Cond.instanceMethod ({ cls := "DemandTermsModel", name := "needs", desc := "(IIIJI)Z" } : Jvm.MethodName)) ∈ AW := AW_t 613 (by decide +kernel) rfl
theorem k614 : (Jvm.Cond.selects "DemandTermsModel" ({ cls := "DemandTermsModel", name := "needs", desc := "(IIIJI)Z" } : Jvm.MethodName) ({ cls := "DemandTermsModel", name := "needs", desc := "(IIIJI)Z" } : Jvm.MethodName)) ∈ AW := AW_t 614 (by decide +kernel) rfl
set_option maxRecDepth 100000 in
theorem k615 : (Jvm.Cond.code ({ cls := "DemandTermsModel", name := "needs", desc := "(IIIJI)Z" } : Jvm.MethodName) prog_8_method_25_code (7 : Nat) (Option.some Jvm.ClassFile.FieldType.boolean)) ∈ AW := AW_t 615 rfl rfl
theorem k616 : (Jvm.Cond.methodLink "DemandTermsModel" (121 : Nat) ({ cls := "DemandTermsModel", name := "there", desc := "(IJ)J" } : Jvm.MethodName)) ∈ AW := AW_t 616 (by decide +kernel) rfl
theorem k618 : (Jvm.Cond.instanceMethod ({ cls := "DemandTermsModel", name := "there", desc := "(IJ)J" } : Jvm.MethodName)) ∈ AW := AW_t 618 (by decide +kernel) rfl
set_option maxRecDepth 100000 in
theorem k619 : (Jvm.Cond.code ({ cls := "DemandTermsModel", name := "there", desc := "(IJ)J" } : Jvm.MethodName) prog_8_method_24_code (7 : Nat) (Option.some Jvm.ClassFile.FieldType.long)) ∈ AW := AW_t 619 rfl rfl
theorem k620 : (Jvm.Cond.methodLink "DemandTermsLaw" (52 : Nat) ({ cls := "DemandTermsModel", name := "derive", desc := "(II)I" } : Jvm.MethodName)) ∈ AW := AW_t 620 (by decide +kernel) rfl
theorem k621 : (Jvm.Cond.instanceMethod ({ cls := "DemandTermsModel", name := "derive", desc := "(II)I" } : Jvm.MethodName)) ∈ AW := AW_t 621 (by decide +kernel) rfl
theorem k622 : (Jvm.Cond.selects "DemandTermsModel" ({ cls := "DemandTermsModel", name := "derive", desc := "(II)I" } : Jvm.MethodName) ({ cls := "DemandTermsModel", name := "derive", desc := "(II)I" } : Jvm.MethodName)) ∈ AW := AW_t 622 (by decide +kernel) rfl
set_option maxRecDepth 100000 in
theorem k623 : (Jvm.Cond.code ({ cls := "DemandTermsModel", name := "derive", desc := "(II)I" } : Jvm.MethodName) prog_8_method_32_code (5 : Nat) (Option.some Jvm.ClassFile.FieldType.int)) ∈ AW := AW_t 623 rfl rfl
theorem k624 : (Jvm.Cond.methodLink "DemandTermsModel" (145 : Nat) ({ cls := "DemandTermsModel", name := "isDerived", desc := "(II)Z" } : Jvm.MethodName)) ∈ AW := AW_t 624 (by decide +kernel) rfl
theorem k626 : (Jvm.Cond.instanceMethod ({ cls := "DemandTermsModel", name := "isDerived", desc := "(II)Z" } : Jvm.MethodName)) ∈ AW := AW_t 626 (by decide +kernel) rfl
set_option maxRecDepth 100000 in
theorem k627 : (Jvm.Cond.code ({ cls := "DemandTermsModel", name := "isDerived", desc := "(II)Z" } : Jvm.MethodName) prog_8_method_28_code (5 : Nat) (Option.some Jvm.ClassFile.FieldType.boolean)) ∈ AW := AW_t 627 rfl rfl
theorem k628 : (Jvm.Cond.methodLink "DemandTermsModel" (148 : Nat) ({ cls := "DemandTermsModel", name := "deriveRow", desc := "(I)V" } : Jvm.MethodName)) ∈ AW := AW_t 628 (by decide +kernel) rfl
theorem k630 : (Jvm.Cond.instanceMethod ({ cls := "DemandTermsModel", name := "deriveRow", desc := "(I)V" } : Jvm.MethodName)) ∈ AW := AW_t 630 (by decide +kernel) rfl
set_option maxRecDepth 100000 in
theorem k631 : (Jvm.Cond.code ({ cls := "DemandTermsModel", name := "deriveRow", desc := "(I)V" } : Jvm.MethodName) prog_8_method_31_code (4 : Nat) (Option.none : Option Jvm.ClassFile.FieldType)) ∈ AW := AW_t 631 rfl rfl
theorem k632 : (Jvm.Cond.methodLink "DemandTermsModel" (136 : Nat) ({ cls := "DemandTermsModel", name := "begin", desc := "()V" } : Jvm.MethodName)) ∈ AW := AW_t 632 (by decide +kernel) rfl
theorem k634 : (Jvm.Cond.instanceMethod ({ cls := "DemandTermsModel", name := "begin", desc := "()V" } : Jvm.MethodName)) ∈ AW := AW_t 634 (by decide +kernel) rfl
set_option maxRecDepth 100000 in
theorem k635 : (Jvm.Cond.code ({ cls := "DemandTermsModel", name := "begin", desc := "()V" } : Jvm.MethodName) prog_8_method_30_code (1 : Nat) (Option.none : Option Jvm.ClassFile.FieldType)) ∈ AW := AW_t 635 rfl rfl
theorem k636 : (Jvm.Cond.methodLink "DemandTermsModel" (139 : Nat) ({ cls := "DemandTermsModel", name := "has", desc := "(II)Z" } : Jvm.MethodName)) ∈ AW := AW_t 636 (by decide +kernel) rfl
theorem k638 : (Jvm.Cond.instanceMethod ({ cls := "DemandTermsModel", name := "has", desc := "(II)Z" } : Jvm.MethodName)) ∈ AW := AW_t 638 (by decide +kernel) rfl
set_option maxRecDepth 100000 in
theorem k639 : (Jvm.Cond.code ({ cls := "DemandTermsModel", name := "has", desc := "(II)Z" } : Jvm.MethodName) prog_8_method_27_code (5 : Nat) (Option.some Jvm.ClassFile.FieldType.boolean)) ∈ AW := AW_t 639 rfl rfl
theorem k640 : (Jvm.Cond.methodLink "DemandTermsModel" (125 : Nat) ({ cls := "DemandTermsModel", name := "isAlike", desc := "(III)Z" } : Jvm.MethodName)) ∈ AW := AW_t 640 (by decide +kernel) rfl
theorem k642 : (Jvm.Cond.instanceMethod ({ cls := "DemandTermsModel", name := "isAlike", desc := "(III)Z" } : Jvm.MethodName)) ∈ AW := AW_t 642 (by decide +kernel) rfl
set_option maxRecDepth 100000 in
theorem k643 : (Jvm.Cond.code ({ cls := "DemandTermsModel", name := "isAlike", desc := "(III)Z" } : Jvm.MethodName) prog_8_method_26_code (4 : Nat) (Option.some Jvm.ClassFile.FieldType.boolean)) ∈ AW := AW_t 643 rfl rfl
theorem k644 : (Jvm.Cond.methodLink "DemandTermsModel" (142 : Nat) ({ cls := "DemandTermsModel", name := "addPart", desc := "(I)V" } : Jvm.MethodName)) ∈ AW := AW_t 644 (by decide +kernel) rfl
theorem k646 : (Jvm.Cond.instanceMethod ({ cls := "DemandTermsModel", name := "addPart", desc := "(I)V" } : Jvm.MethodName)) ∈ AW := AW_t 646 (by decide +kernel) rfl
set_option maxRecDepth 100000 in
theorem k647 : (Jvm.Cond.code ({ cls := "DemandTermsModel", name := "addPart", desc := "(I)V" } : Jvm.MethodName) prog_8_method_29_code (3 : Nat) (Option.none : Option Jvm.ClassFile.FieldType)) ∈ AW := AW_t 647 rfl rfl
theorem k648 : (Jvm.Cond.methodLink "DemandTermsModel" (129 : Nat) ({ cls := "DemandTermsModel", name := "isFull", desc := "(I)Z" } : Jvm.MethodName)) ∈ AW := AW_t 648 (by decide +kernel) rfl
theorem k650 : (Jvm.Cond.instanceMethod ({ cls := "DemandTermsModel", name := "isFull", desc := "(I)Z" } : Jvm.MethodName)) ∈ AW := AW_t 650 (by decide +kernel) rfl
set_option maxRecDepth 100000 in
theorem k651 : (Jvm.Cond.code ({ cls := "DemandTermsModel", name := "isFull", desc := "(I)Z" } : Jvm.MethodName) prog_8_method_13_code (4 : Nat) (Option.some Jvm.ClassFile.FieldType.boolean)) ∈ AW := AW_t 651 rfl rfl
theorem k652 : (Jvm.Cond.methodLink "DemandTermsModel" (132 : Nat) ({ cls := "DemandTermsModel", name := "copy", desc := "(II)V" } : Jvm.MethodName)) ∈ AW := AW_t 652 (by decide +kernel) rfl
theorem k654 : (Jvm.Cond.instanceMethod ({ cls := "DemandTermsModel", name := "copy", desc := "(II)V" } : Jvm.MethodName)) ∈ AW := AW_t 654 (by decide +kernel) rfl
set_option maxRecDepth 100000 in
theorem k655 : (Jvm.Cond.code ({ cls := "DemandTermsModel", name := "copy", desc := "(II)V" } : Jvm.MethodName) prog_8_method_11_code (4 : Nat) (Option.none : Option Jvm.ClassFile.FieldType)) ∈ AW := AW_t 655 rfl rfl
theorem k656 : (Jvm.Cond.methodLink "DemandTermsLaw" (56 : Nat) ({ cls := "DemandTermsModel", name := "bar", desc := "(IJZ)I" } : Jvm.MethodName)) ∈ AW := AW_t 656 (by decide +kernel) rfl
theorem k657 : (Jvm.Cond.instanceMethod ({ cls := "DemandTermsModel", name := "bar", desc := "(IJZ)I" } : Jvm.MethodName)) ∈ AW := AW_t 657 (by decide +kernel) rfl
theorem k658 : (Jvm.Cond.selects "DemandTermsModel" ({ cls := "DemandTermsModel", name := "bar", desc := "(IJZ)I" } : Jvm.MethodName) ({ cls := "DemandTermsModel", name := "bar", desc := "(IJZ)I" } : Jvm.MethodName)) ∈ AW := AW_t 658 (by decide +kernel) rfl
set_option maxRecDepth 100000 in
theorem k659 : (Jvm.Cond.code ({ cls := "DemandTermsModel", name := "bar", desc := "(IJZ)I" } : Jvm.MethodName) prog_8_method_33_code (5 : Nat) (Option.some Jvm.ClassFile.FieldType.int)) ∈ AW := AW_t 659 rfl rfl
theorem k660 : (Jvm.Cond.methodLink "DemandTermsLaw" (61 : Nat) ({ cls := "DemandTermsModel", name := "learn", desc := "(III)I" } : Jvm.MethodName)) ∈ AW := AW_t 660 (by decide +kernel) rfl
theorem k661 : (Jvm.Cond.instanceMethod ({ cls := "DemandTermsModel", name := "learn", desc := "(III)I" } : Jvm.MethodName)) ∈ AW := AW_t 661 (by decide +kernel) rfl
theorem k662 : (Jvm.Cond.selects "DemandTermsModel" ({ cls := "DemandTermsModel", name := "learn", desc := "(III)I" } : Jvm.MethodName) ({ cls := "DemandTermsModel", name := "learn", desc := "(III)I" } : Jvm.MethodName)) ∈ AW := AW_t 662 (by decide +kernel) rfl
set_option maxRecDepth 100000 in
theorem k663 : (Jvm.Cond.code ({ cls := "DemandTermsModel", name := "learn", desc := "(III)I" } : Jvm.MethodName) prog_8_method_35_code (7 : Nat) (Option.some Jvm.ClassFile.FieldType.int)) ∈ AW := AW_t 663 rfl rfl
theorem k664 : (Jvm.Cond.methodLink "DemandTermsModel" (151 : Nat) ({ cls := "DemandTermsModel", name := "isBar", desc := "(I)Z" } : Jvm.MethodName)) ∈ AW := AW_t 664 (by decide +kernel) rfl
theorem k666 : (Jvm.Cond.instanceMethod ({ cls := "DemandTermsModel", name := "isBar", desc := "(I)Z" } : Jvm.MethodName)) ∈ AW := AW_t 666 (by decide +kernel) rfl
set_option maxRecDepth 100000 in
theorem k667 : (Jvm.Cond.code ({ cls := "DemandTermsModel", name := "isBar", desc := "(I)Z" } : Jvm.MethodName) prog_8_method_5_code (2 : Nat) (Option.some Jvm.ClassFile.FieldType.boolean)) ∈ AW := AW_t 667 rfl rfl
theorem k668 : (Jvm.Cond.methodLink "DemandTermsModel" (154 : Nat) ({ cls := "DemandTermsModel", name := "partOf", desc := "(II)I" } : Jvm.MethodName)) ∈ AW := AW_t 668 (by decide +kernel) rfl
theorem k670 : (Jvm.Cond.instanceMethod ({ cls := "DemandTermsModel", name := "partOf", desc := "(II)I" } : Jvm.MethodName)) ∈ AW := AW_t 670 (by decide +kernel) rfl
set_option maxRecDepth 100000 in
theorem k671 : (Jvm.Cond.code ({ cls := "DemandTermsModel", name := "partOf", desc := "(II)I" } : Jvm.MethodName) prog_8_method_34_code (5 : Nat) (Option.some Jvm.ClassFile.FieldType.int)) ∈ AW := AW_t 671 rfl rfl
theorem k672 : (Jvm.Cond.methodLink "DemandTermsLaw" (66 : Nat) ({ cls := "DemandTermsModel", name := "count", desc := "()I" } : Jvm.MethodName)) ∈ AW := AW_t 672 (by decide +kernel) rfl
theorem k673 : (Jvm.Cond.instanceMethod ({ cls := "DemandTermsModel", name := "count", desc := "()I" } : Jvm.MethodName)) ∈ AW := AW_t 673 (by decide +kernel) rfl
theorem k674 : (Jvm.Cond.selects "DemandTermsModel" ({ cls := "DemandTermsModel", name := "count", desc := "()I" } : Jvm.MethodName) ({ cls := "DemandTermsModel", name := "count", desc := "()I" } : Jvm.MethodName)) ∈ AW := AW_t 674 (by decide +kernel) rfl
set_option maxRecDepth 100000 in
theorem k675 : (Jvm.Cond.code ({ cls := "DemandTermsModel", name := "count", desc := "()I" } : Jvm.MethodName) prog_8_method_36_code (1 : Nat) (Option.some Jvm.ClassFile.FieldType.int)) ∈ AW := AW_t 675 rfl rfl
theorem k676 : (Jvm.Cond.methodLink "DemandTermsLaw" (70 : Nat) ({ cls := "DemandTermsModel", name := "terms", desc := "(I)I" } : Jvm.MethodName)) ∈ AW := AW_t 676 (by decide +kernel) rfl
theorem k677 : (Jvm.Cond.instanceMethod ({ cls := "DemandTermsModel", name := "terms", desc := "(I)I" } : Jvm.MethodName)) ∈ AW := AW_t 677 (by decide +kernel) rfl
theorem k678 : (Jvm.Cond.selects "DemandTermsModel" ({ cls := "DemandTermsModel", name := "terms", desc := "(I)I" } : Jvm.MethodName) ({ cls := "DemandTermsModel", name := "terms", desc := "(I)I" } : Jvm.MethodName)) ∈ AW := AW_t 678 (by decide +kernel) rfl
set_option maxRecDepth 100000 in
theorem k679 : (Jvm.Cond.code ({ cls := "DemandTermsModel", name := "terms", desc := "(I)I" } : Jvm.MethodName) prog_8_method_37_code (2 : Nat) (Option.some Jvm.ClassFile.FieldType.int)) ∈ AW := AW_t 679 rfl rfl
theorem k680 : (Jvm.Cond.methodLink "DemandTermsLaw" (74 : Nat) ({ cls := "DemandTermsModel", name := "part", desc := "(III)I" } : Jvm.MethodName)) ∈ AW := AW_t 680 (by decide +kernel) rfl
theorem k681 : (Jvm.Cond.instanceMethod ({ cls := "DemandTermsModel", name := "part", desc := "(III)I" } : Jvm.MethodName)) ∈ AW := AW_t 681 (by decide +kernel) rfl
theorem k682 : (Jvm.Cond.selects "DemandTermsModel" ({ cls := "DemandTermsModel", name := "part", desc := "(III)I" } : Jvm.MethodName) ({ cls := "DemandTermsModel", name := "part", desc := "(III)I" } : Jvm.MethodName)) ∈ AW := AW_t 682 (by decide +kernel) rfl
set_option maxRecDepth 100000 in
theorem k683 : (Jvm.Cond.code ({ cls := "DemandTermsModel", name := "part", desc := "(III)I" } : Jvm.MethodName) prog_8_method_39_code (4 : Nat) (Option.some Jvm.ClassFile.FieldType.int)) ∈ AW := AW_t 683 rfl rfl
theorem k684 : (Jvm.Cond.methodLink "DemandTermsModel" (157 : Nat) ({ cls := "DemandTermsModel", name := "isPart", desc := "(II)Z" } : Jvm.MethodName)) ∈ AW := AW_t 684 (by decide +kernel) rfl
theorem k686 : (Jvm.Cond.instanceMethod ({ cls := "DemandTermsModel", name := "isPart", desc := "(II)Z" } : Jvm.MethodName)) ∈ AW := AW_t 686 (by decide +kernel) rfl
set_option maxRecDepth 100000 in
theorem k687 : (Jvm.Cond.code ({ cls := "DemandTermsModel", name := "isPart", desc := "(II)Z" } : Jvm.MethodName) prog_8_method_38_code (3 : Nat) (Option.some Jvm.ClassFile.FieldType.boolean)) ∈ AW := AW_t 687 rfl rfl
theorem k688 : (Jvm.Cond.methodLink "DemandTermsLaw" (79 : Nat) ({ cls := "DemandTermsModel", name := "partSet", desc := "(II)J" } : Jvm.MethodName)) ∈ AW := AW_t 688 (by decide +kernel) rfl
theorem k689 : (Jvm.Cond.instanceMethod ({ cls := "DemandTermsModel", name := "partSet", desc := "(II)J" } : Jvm.MethodName)) ∈ AW := AW_t 689 (by decide +kernel) rfl
theorem k690 : (Jvm.Cond.selects "DemandTermsModel" ({ cls := "DemandTermsModel", name := "partSet", desc := "(II)J" } : Jvm.MethodName) ({ cls := "DemandTermsModel", name := "partSet", desc := "(II)J" } : Jvm.MethodName)) ∈ AW := AW_t 690 (by decide +kernel) rfl
set_option maxRecDepth 100000 in
theorem k691 : (Jvm.Cond.code ({ cls := "DemandTermsModel", name := "partSet", desc := "(II)J" } : Jvm.MethodName) prog_8_method_40_code (3 : Nat) (Option.some Jvm.ClassFile.FieldType.long)) ∈ AW := AW_t 691 rfl rfl
theorem k692 : (Jvm.Cond.methodLink "DemandTermsLaw" (84 : Nat) ({ cls := "DemandTermsModel", name := "choose", desc := "(I)Z" } : Jvm.MethodName)) ∈ AW := AW_t 692 (by decide +kernel) rfl
theorem k693 : (Jvm.Cond.instanceMethod ({ cls := "DemandTermsModel", name := "choose", desc := "(I)Z" } : Jvm.MethodName)) ∈ AW := AW_t 693 (by decide +kernel) rfl
theorem k694 : (Jvm.Cond.selects "DemandTermsModel" ({ cls := "DemandTermsModel", name := "choose", desc := "(I)Z" } : Jvm.MethodName) ({ cls := "DemandTermsModel", name := "choose", desc := "(I)Z" } : Jvm.MethodName)) ∈ AW := AW_t 694 (by decide +kernel) rfl
set_option maxRecDepth 100000 in
theorem k695 : (Jvm.Cond.code ({ cls := "DemandTermsModel", name := "choose", desc := "(I)Z" } : Jvm.MethodName) prog_8_method_41_code (2 : Nat) (Option.some Jvm.ClassFile.FieldType.boolean)) ∈ AW := AW_t 695 rfl rfl
theorem k696 : (Jvm.Cond.methodLink "DemandTermsLaw" (88 : Nat) ({ cls := "DemandTermsModel", name := "forget", desc := "()V" } : Jvm.MethodName)) ∈ AW := AW_t 696 (by decide +kernel) rfl
theorem k697 : (Jvm.Cond.instanceMethod ({ cls := "DemandTermsModel", name := "forget", desc := "()V" } : Jvm.MethodName)) ∈ AW := AW_t 697 (by decide +kernel) rfl
theorem k698 : (Jvm.Cond.selects "DemandTermsModel" ({ cls := "DemandTermsModel", name := "forget", desc := "()V" } : Jvm.MethodName) ({ cls := "DemandTermsModel", name := "forget", desc := "()V" } : Jvm.MethodName)) ∈ AW := AW_t 698 (by decide +kernel) rfl
set_option maxRecDepth 100000 in
theorem k699 : (Jvm.Cond.code ({ cls := "DemandTermsModel", name := "forget", desc := "()V" } : Jvm.MethodName) prog_8_method_42_code (2 : Nat) (Option.none : Option Jvm.ClassFile.FieldType)) ∈ AW := AW_t 699 rfl rfl
theorem k700 : (Jvm.Cond.methodLink "DemandTermsLaw" (92 : Nat) ({ cls := "DemandTermsModel", name := "state", desc := "(I)I" } : Jvm.MethodName)) ∈ AW := AW_t 700 (by decide +kernel) rfl
theorem k701 : (Jvm.Cond.instanceMethod ({ cls := "DemandTermsModel", name := "state", desc := "(I)I" } : Jvm.MethodName)) ∈ AW := AW_t 701 (by decide +kernel) rfl
theorem k702 : (Jvm.Cond.selects "DemandTermsModel" ({ cls := "DemandTermsModel", name := "state", desc := "(I)I" } : Jvm.MethodName) ({ cls := "DemandTermsModel", name := "state", desc := "(I)I" } : Jvm.MethodName)) ∈ AW := AW_t 702 (by decide +kernel) rfl
set_option maxRecDepth 100000 in
theorem k703 : (Jvm.Cond.code ({ cls := "DemandTermsModel", name := "state", desc := "(I)I" } : Jvm.MethodName) prog_8_method_47_code (2 : Nat) (Option.some Jvm.ClassFile.FieldType.int)) ∈ AW := AW_t 703 rfl rfl
theorem k704 : (Jvm.Cond.methodLink "DemandTermsModel" (167 : Nat) ({ cls := "DemandTermsModel", name := "look", desc := "(I)I" } : Jvm.MethodName)) ∈ AW := AW_t 704 (by decide +kernel) rfl
theorem k706 : (Jvm.Cond.instanceMethod ({ cls := "DemandTermsModel", name := "look", desc := "(I)I" } : Jvm.MethodName)) ∈ AW := AW_t 706 (by decide +kernel) rfl
set_option maxRecDepth 100000 in
theorem k707 : (Jvm.Cond.code ({ cls := "DemandTermsModel", name := "look", desc := "(I)I" } : Jvm.MethodName) prog_8_method_45_code (3 : Nat) (Option.some Jvm.ClassFile.FieldType.int)) ∈ AW := AW_t 707 rfl rfl
theorem k708 : (Jvm.Cond.methodLink "DemandTermsModel" (164 : Nat) ({ cls := "DemandTermsModel", name := "counted", desc := "(II)I" } : Jvm.MethodName)) ∈ AW := AW_t 708 (by decide +kernel) rfl
theorem k710 : (Jvm.Cond.instanceMethod ({ cls := "DemandTermsModel", name := "counted", desc := "(II)I" } : Jvm.MethodName)) ∈ AW := AW_t 710 (by decide +kernel) rfl
set_option maxRecDepth 100000 in
theorem k711 : (Jvm.Cond.code ({ cls := "DemandTermsModel", name := "counted", desc := "(II)I" } : Jvm.MethodName) prog_8_method_44_code (5 : Nat) (Option.some Jvm.ClassFile.FieldType.int)) ∈ AW := AW_t 711 rfl rfl
theorem k712 : (Jvm.Cond.methodLink "DemandTermsModel" (160 : Nat) ({ cls := "DemandTermsModel", name := "stateOf", desc := "(I)I" } : Jvm.MethodName)) ∈ AW := AW_t 712 (by decide +kernel) rfl
theorem k714 : (Jvm.Cond.instanceMethod ({ cls := "DemandTermsModel", name := "stateOf", desc := "(I)I" } : Jvm.MethodName)) ∈ AW := AW_t 714 (by decide +kernel) rfl
set_option maxRecDepth 100000 in
theorem k715 : (Jvm.Cond.code ({ cls := "DemandTermsModel", name := "stateOf", desc := "(I)I" } : Jvm.MethodName) prog_8_method_43_code (2 : Nat) (Option.some Jvm.ClassFile.FieldType.int)) ∈ AW := AW_t 715 rfl rfl
theorem k716 : (Jvm.Cond.methodLink "DemandTermsLaw" (96 : Nat) ({ cls := "DemandTermsModel", name := "forced", desc := "(I)I" } : Jvm.MethodName)) ∈ AW := AW_t 716 (by decide +kernel) rfl
theorem k717 : (Jvm.Cond.instanceMethod ({ cls := "DemandTermsModel", name := "forced", desc := "(I)I" } : Jvm.MethodName)) ∈ AW := AW_t 717 (by decide +kernel) rfl
theorem k718 : (Jvm.Cond.selects "DemandTermsModel" ({ cls := "DemandTermsModel", name := "forced", desc := "(I)I" } : Jvm.MethodName) ({ cls := "DemandTermsModel", name := "forced", desc := "(I)I" } : Jvm.MethodName)) ∈ AW := AW_t 718 (by decide +kernel) rfl
set_option maxRecDepth 100000 in
theorem k719 : (Jvm.Cond.code ({ cls := "DemandTermsModel", name := "forced", desc := "(I)I" } : Jvm.MethodName) prog_8_method_48_code (2 : Nat) (Option.some Jvm.ClassFile.FieldType.int)) ∈ AW := AW_t 719 rfl rfl
theorem k720 : (Jvm.Cond.methodLink "DemandTermsModel" (170 : Nat) ({ cls := "DemandTermsModel", name := "openPart", desc := "(I)I" } : Jvm.MethodName)) ∈ AW := AW_t 720 (by decide +kernel) rfl
theorem k722 : (Jvm.Cond.instanceMethod ({ cls := "DemandTermsModel", name := "openPart", desc := "(I)I" } : Jvm.MethodName)) ∈ AW := AW_t 722 (by decide +kernel) rfl
set_option maxRecDepth 100000 in
theorem k723 : (Jvm.Cond.code ({ cls := "DemandTermsModel", name := "openPart", desc := "(I)I" } : Jvm.MethodName) prog_8_method_46_code (4 : Nat) (Option.some Jvm.ClassFile.FieldType.int)) ∈ AW := AW_t 723 rfl rfl
theorem k724 : (Jvm.Cond.methodLink "DemandTermsLaw" (100 : Nat) ({ cls := "DemandTermsModel", name := "spread", desc := "()I" } : Jvm.MethodName)) ∈ AW := AW_t 724 (by decide +kernel) rfl
theorem k725 : (Jvm.Cond.instanceMethod ({ cls := "DemandTermsModel", name := "spread", desc := "()I" } : Jvm.MethodName)) ∈ AW := AW_t 725 (by decide +kernel) rfl
theorem k726 : (Jvm.Cond.selects "DemandTermsModel" ({ cls := "DemandTermsModel", name := "spread", desc := "()I" } : Jvm.MethodName) ({ cls := "DemandTermsModel", name := "spread", desc := "()I" } : Jvm.MethodName)) ∈ AW := AW_t 726 (by decide +kernel) rfl
set_option maxRecDepth 100000 in
theorem k727 : (Jvm.Cond.code ({ cls := "DemandTermsModel", name := "spread", desc := "()I" } : Jvm.MethodName) prog_8_method_50_code (7 : Nat) (Option.some Jvm.ClassFile.FieldType.int)) ∈ AW := AW_t 727 rfl rfl
theorem k728 : (Jvm.Cond.methodLink "DemandTermsModel" (173 : Nat) ({ cls := "DemandTermsModel", name := "firstKept", desc := "()I" } : Jvm.MethodName)) ∈ AW := AW_t 728 (by decide +kernel) rfl
theorem k730 : (Jvm.Cond.instanceMethod ({ cls := "DemandTermsModel", name := "firstKept", desc := "()I" } : Jvm.MethodName)) ∈ AW := AW_t 730 (by decide +kernel) rfl
set_option maxRecDepth 100000 in
theorem k731 : (Jvm.Cond.code ({ cls := "DemandTermsModel", name := "firstKept", desc := "()I" } : Jvm.MethodName) prog_8_method_49_code (2 : Nat) (Option.some Jvm.ClassFile.FieldType.int)) ∈ AW := AW_t 731 rfl rfl
theorem k732 : (Jvm.Cond.methodLink "DemandTermsLaw" (104 : Nat) ({ cls := "DemandTermsModel", name := "chosen", desc := "(II)I" } : Jvm.MethodName)) ∈ AW := AW_t 732 (by decide +kernel) rfl
theorem k733 : (Jvm.Cond.instanceMethod ({ cls := "DemandTermsModel", name := "chosen", desc := "(II)I" } : Jvm.MethodName)) ∈ AW := AW_t 733 (by decide +kernel) rfl
theorem k734 : (Jvm.Cond.selects "DemandTermsModel" ({ cls := "DemandTermsModel", name := "chosen", desc := "(II)I" } : Jvm.MethodName) ({ cls := "DemandTermsModel", name := "chosen", desc := "(II)I" } : Jvm.MethodName)) ∈ AW := AW_t 734 (by decide +kernel) rfl
set_option maxRecDepth 100000 in
theorem k735 : (Jvm.Cond.code ({ cls := "DemandTermsModel", name := "chosen", desc := "(II)I" } : Jvm.MethodName) prog_8_method_51_code (3 : Nat) (Option.some Jvm.ClassFile.FieldType.int)) ∈ AW := AW_t 735 rfl rfl
theorem k736 : (Jvm.Cond.methodLink "DemandTermsLaw" (108 : Nat) ({ cls := "DemandTermsModel", name := "chosenSet", desc := "(I)J" } : Jvm.MethodName)) ∈ AW := AW_t 736 (by decide +kernel) rfl
theorem k737 : (Jvm.Cond.instanceMethod ({ cls := "DemandTermsModel", name := "chosenSet", desc := "(I)J" } : Jvm.MethodName)) ∈ AW := AW_t 737 (by decide +kernel) rfl
theorem k738 : (Jvm.Cond.selects "DemandTermsModel" ({ cls := "DemandTermsModel", name := "chosenSet", desc := "(I)J" } : Jvm.MethodName) ({ cls := "DemandTermsModel", name := "chosenSet", desc := "(I)J" } : Jvm.MethodName)) ∈ AW := AW_t 738 (by decide +kernel) rfl
set_option maxRecDepth 100000 in
theorem k739 : (Jvm.Cond.code ({ cls := "DemandTermsModel", name := "chosenSet", desc := "(I)J" } : Jvm.MethodName) prog_8_method_52_code (2 : Nat) (Option.some Jvm.ClassFile.FieldType.long)) ∈ AW := AW_t 739 rfl rfl
theorem k740 : (Jvm.Cond.methodLink "DemandTermsLaw" (112 : Nat) ({ cls := "DemandTermsModel", name := "print", desc := "(I)I" } : Jvm.MethodName)) ∈ AW := AW_t 740 (by decide +kernel) rfl
theorem k741 : (Jvm.Cond.instanceMethod ({ cls := "DemandTermsModel", name := "print", desc := "(I)I" } : Jvm.MethodName)) ∈ AW := AW_t 741 (by decide +kernel) rfl
theorem k742 : (Jvm.Cond.selects "DemandTermsModel" ({ cls := "DemandTermsModel", name := "print", desc := "(I)I" } : Jvm.MethodName) ({ cls := "DemandTermsModel", name := "print", desc := "(I)I" } : Jvm.MethodName)) ∈ AW := AW_t 742 (by decide +kernel) rfl
set_option maxRecDepth 100000 in
theorem k743 : (Jvm.Cond.code ({ cls := "DemandTermsModel", name := "print", desc := "(I)I" } : Jvm.MethodName) prog_8_method_56_code (3 : Nat) (Option.some Jvm.ClassFile.FieldType.int)) ∈ AW := AW_t 743 rfl rfl
theorem k744 : (Jvm.Cond.methodLink "DemandTermsModel" (180 : Nat) ({ cls := "DemandTermsModel", name := "put", desc := "(I)V" } : Jvm.MethodName)) ∈ AW := AW_t 744 (by decide +kernel) rfl
theorem k746 : (Jvm.Cond.instanceMethod ({ cls := "DemandTermsModel", name := "put", desc := "(I)V" } : Jvm.MethodName)) ∈ AW := AW_t 746 (by decide +kernel) rfl
set_option maxRecDepth 100000 in
theorem k747 : (Jvm.Cond.code ({ cls := "DemandTermsModel", name := "put", desc := "(I)V" } : Jvm.MethodName) prog_8_method_53_code (2 : Nat) (Option.none : Option Jvm.ClassFile.FieldType)) ∈ AW := AW_t 747 rfl rfl
theorem k748 : (Jvm.Cond.methodLink "DemandTermsModel" (186 : Nat) ({ cls := "DemandTermsModel", name := "putTerm", desc := "(I)V" } : Jvm.MethodName)) ∈ AW := AW_t 748 (by decide +kernel) rfl
theorem k750 : (Jvm.Cond.instanceMethod ({ cls := "DemandTermsModel", name := "putTerm", desc := "(I)V" } : Jvm.MethodName)) ∈ AW := AW_t 750 (by decide +kernel) rfl
set_option maxRecDepth 100000 in
theorem k751 : (Jvm.Cond.code ({ cls := "DemandTermsModel", name := "putTerm", desc := "(I)V" } : Jvm.MethodName) prog_8_method_55_code (5 : Nat) (Option.none : Option Jvm.ClassFile.FieldType)) ∈ AW := AW_t 751 rfl rfl
theorem k752 : (Jvm.Cond.methodLink "DemandTermsModel" (183 : Nat) ({ cls := "DemandTermsModel", name := "putNumber", desc := "(I)V" } : Jvm.MethodName)) ∈ AW := AW_t 752 (by decide +kernel) rfl
theorem k754 : (Jvm.Cond.instanceMethod ({ cls := "DemandTermsModel", name := "putNumber", desc := "(I)V" } : Jvm.MethodName)) ∈ AW := AW_t 754 (by decide +kernel) rfl
set_option maxRecDepth 100000 in
theorem k755 : (Jvm.Cond.code ({ cls := "DemandTermsModel", name := "putNumber", desc := "(I)V" } : Jvm.MethodName) prog_8_method_54_code (2 : Nat) (Option.none : Option Jvm.ClassFile.FieldType)) ∈ AW := AW_t 755 rfl rfl
theorem k756 : (Jvm.Cond.methodLink "DemandTermsLaw" (116 : Nat) ({ cls := "DemandTermsModel", name := "at", desc := "(I)I" } : Jvm.MethodName)) ∈ AW := AW_t 756 (by decide +kernel) rfl
theorem k757 : (Jvm.Cond.instanceMethod ({ cls := "DemandTermsModel", name := "at", desc := "(I)I" } : Jvm.MethodName)) ∈ AW := AW_t 757 (by decide +kernel) rfl
theorem k758 : (Jvm.Cond.selects "DemandTermsModel" ({ cls := "DemandTermsModel", name := "at", desc := "(I)I" } : Jvm.MethodName) ({ cls := "DemandTermsModel", name := "at", desc := "(I)I" } : Jvm.MethodName)) ∈ AW := AW_t 758 (by decide +kernel) rfl
set_option maxRecDepth 100000 in
theorem k759 : (Jvm.Cond.code ({ cls := "DemandTermsModel", name := "at", desc := "(I)I" } : Jvm.MethodName) prog_8_method_57_code (2 : Nat) (Option.some Jvm.ClassFile.FieldType.int)) ∈ AW := AW_t 759 rfl rfl
theorem k760 : (Jvm.Cond.constantLong "DemandTermsLaw" (18 : Nat) (4294967295 : Int64)) ∈ AW := AW_t 760 (by decide +kernel) rfl
theorem ks0 : Cond.selects "DemandTerms" (⟨"DemandTerms", "describe", "(IJI)I"⟩ : MethodName) (⟨"DemandTerms", "describe", "(IJI)I"⟩ : MethodName) ∈ AW := AW_s 0 (by decide +kernel) rfl
theorem ks1 : Cond.selects "DemandTerms" (⟨"DemandTerms", "isDerived", "(I)Z"⟩ : MethodName) (⟨"DemandTerms", "isDerived", "(I)Z"⟩ : MethodName) ∈ AW := AW_s 1 (by decide +kernel) rfl
theorem ks2 : Cond.selects "DemandTerms" (⟨"DemandTerms", "deriveFrom", "(I)Z"⟩ : MethodName) (⟨"DemandTerms", "deriveFrom", "(I)Z"⟩ : MethodName) ∈ AW := AW_s 2 (by decide +kernel) rfl
theorem ks3 : Cond.selects "DemandTerms" (⟨"DemandTerms", "putPart", "(IIJ)V"⟩ : MethodName) (⟨"DemandTerms", "putPart", "(IIJ)V"⟩ : MethodName) ∈ AW := AW_s 3 (by decide +kernel) rfl
theorem ks4 : Cond.selects "DemandTerms" (⟨"DemandTerms", "placesIn", "(II)J"⟩ : MethodName) (⟨"DemandTerms", "placesIn", "(II)J"⟩ : MethodName) ∈ AW := AW_s 4 (by decide +kernel) rfl
theorem ks5 : Cond.selects "DemandTerms" (⟨"DemandTerms", "narrowChoice", "(IJ)V"⟩ : MethodName) (⟨"DemandTerms", "narrowChoice", "(IJ)V"⟩ : MethodName) ∈ AW := AW_s 5 (by decide +kernel) rfl
theorem ks6 : Cond.selects "DemandTerms" (⟨"DemandTerms", "stateOf", "(I)I"⟩ : MethodName) (⟨"DemandTerms", "stateOf", "(I)I"⟩ : MethodName) ∈ AW := AW_s 6 (by decide +kernel) rfl
theorem ks7 : Cond.selects "DemandTerms" (⟨"DemandTerms", "relationToChoice", "(II)I"⟩ : MethodName) (⟨"DemandTerms", "relationToChoice", "(II)I"⟩ : MethodName) ∈ AW := AW_s 7 (by decide +kernel) rfl
theorem ks8 : Cond.selects "DemandTerms" (⟨"DemandTerms", "openName", "(I)I"⟩ : MethodName) (⟨"DemandTerms", "openName", "(I)I"⟩ : MethodName) ∈ AW := AW_s 8 (by decide +kernel) rfl
theorem ks9 : Cond.selects "DemandTerms" (⟨"DemandTerms", "firstKept", "()I"⟩ : MethodName) (⟨"DemandTerms", "firstKept", "()I"⟩ : MethodName) ∈ AW := AW_s 9 (by decide +kernel) rfl
theorem ks10 : Cond.selects "DemandTerms" (⟨"DemandTerms", "force", "(I)V"⟩ : MethodName) (⟨"DemandTerms", "force", "(I)V"⟩ : MethodName) ∈ AW := AW_s 10 (by decide +kernel) rfl
theorem ks11 : Cond.selects "DemandTerms" (⟨"DemandTerms", "printPart", "(IJ)V"⟩ : MethodName) (⟨"DemandTerms", "printPart", "(IJ)V"⟩ : MethodName) ∈ AW := AW_s 11 (by decide +kernel) rfl
theorem ks12 : Cond.selects "DemandTerms$Page" (⟨"DemandTerms$Page", "putNumber", "(I)V"⟩ : MethodName) (⟨"DemandTerms$Page", "putNumber", "(I)V"⟩ : MethodName) ∈ AW := AW_s 12 (by decide +kernel) rfl
theorem ks13 : Cond.selects "DemandTermsModel" (⟨"DemandTermsModel", "full", "(I)V"⟩ : MethodName) (⟨"DemandTermsModel", "full", "(I)V"⟩ : MethodName) ∈ AW := AW_s 13 (by decide +kernel) rfl
theorem ks14 : Cond.selects "DemandTermsModel" (⟨"DemandTermsModel", "tell", "(IIZ)V"⟩ : MethodName) (⟨"DemandTermsModel", "tell", "(IIZ)V"⟩ : MethodName) ∈ AW := AW_s 14 (by decide +kernel) rfl
theorem ks15 : Cond.selects "DemandTermsModel" (⟨"DemandTermsModel", "isName", "(I)Z"⟩ : MethodName) (⟨"DemandTermsModel", "isName", "(I)Z"⟩ : MethodName) ∈ AW := AW_s 15 (by decide +kernel) rfl
theorem ks16 : Cond.selects "DemandTermsModel" (⟨"DemandTermsModel", "make", "(IIJZ)V"⟩ : MethodName) (⟨"DemandTermsModel", "make", "(IIJZ)V"⟩ : MethodName) ∈ AW := AW_s 16 (by decide +kernel) rfl
theorem ks17 : Cond.selects "DemandTermsModel" (⟨"DemandTermsModel", "isTerm", "(I)Z"⟩ : MethodName) (⟨"DemandTermsModel", "isTerm", "(I)Z"⟩ : MethodName) ∈ AW := AW_s 17 (by decide +kernel) rfl
theorem ks18 : Cond.selects "DemandTermsModel" (⟨"DemandTermsModel", "join", "(IIIZ)V"⟩ : MethodName) (⟨"DemandTermsModel", "join", "(IIIZ)V"⟩ : MethodName) ∈ AW := AW_s 18 (by decide +kernel) rfl
theorem ks19 : Cond.selects "DemandTermsModel" (⟨"DemandTermsModel", "isSaid", "(II)Z"⟩ : MethodName) (⟨"DemandTermsModel", "isSaid", "(II)Z"⟩ : MethodName) ∈ AW := AW_s 19 (by decide +kernel) rfl
theorem ks20 : Cond.selects "DemandTermsModel" (⟨"DemandTermsModel", "relation", "(II)I"⟩ : MethodName) (⟨"DemandTermsModel", "relation", "(II)I"⟩ : MethodName) ∈ AW := AW_s 20 (by decide +kernel) rfl
theorem ks21 : Cond.selects "DemandTermsModel" (⟨"DemandTermsModel", "aboutOf", "(II)I"⟩ : MethodName) (⟨"DemandTermsModel", "aboutOf", "(II)I"⟩ : MethodName) ∈ AW := AW_s 21 (by decide +kernel) rfl
theorem ks22 : Cond.selects "DemandTermsModel" (⟨"DemandTermsModel", "isListed", "(II)Z"⟩ : MethodName) (⟨"DemandTermsModel", "isListed", "(II)Z"⟩ : MethodName) ∈ AW := AW_s 22 (by decide +kernel) rfl
theorem ks23 : Cond.selects "DemandTermsModel" (⟨"DemandTermsModel", "isWanted", "(I)Z"⟩ : MethodName) (⟨"DemandTermsModel", "isWanted", "(I)Z"⟩ : MethodName) ∈ AW := AW_s 23 (by decide +kernel) rfl
theorem ks24 : Cond.selects "DemandTermsModel" (⟨"DemandTermsModel", "setOf", "(I)J"⟩ : MethodName) (⟨"DemandTermsModel", "setOf", "(I)J"⟩ : MethodName) ∈ AW := AW_s 24 (by decide +kernel) rfl
theorem ks25 : Cond.selects "DemandTermsModel" (⟨"DemandTermsModel", "there", "(IJ)J"⟩ : MethodName) (⟨"DemandTermsModel", "there", "(IJ)J"⟩ : MethodName) ∈ AW := AW_s 25 (by decide +kernel) rfl
theorem ks26 : Cond.selects "DemandTermsModel" (⟨"DemandTermsModel", "isDerived", "(II)Z"⟩ : MethodName) (⟨"DemandTermsModel", "isDerived", "(II)Z"⟩ : MethodName) ∈ AW := AW_s 26 (by decide +kernel) rfl
theorem ks27 : Cond.selects "DemandTermsModel" (⟨"DemandTermsModel", "deriveRow", "(I)V"⟩ : MethodName) (⟨"DemandTermsModel", "deriveRow", "(I)V"⟩ : MethodName) ∈ AW := AW_s 27 (by decide +kernel) rfl
theorem ks28 : Cond.selects "DemandTermsModel" (⟨"DemandTermsModel", "begin", "()V"⟩ : MethodName) (⟨"DemandTermsModel", "begin", "()V"⟩ : MethodName) ∈ AW := AW_s 28 (by decide +kernel) rfl
theorem ks29 : Cond.selects "DemandTermsModel" (⟨"DemandTermsModel", "has", "(II)Z"⟩ : MethodName) (⟨"DemandTermsModel", "has", "(II)Z"⟩ : MethodName) ∈ AW := AW_s 29 (by decide +kernel) rfl
theorem ks30 : Cond.selects "DemandTermsModel" (⟨"DemandTermsModel", "isAlike", "(III)Z"⟩ : MethodName) (⟨"DemandTermsModel", "isAlike", "(III)Z"⟩ : MethodName) ∈ AW := AW_s 30 (by decide +kernel) rfl
theorem ks31 : Cond.selects "DemandTermsModel" (⟨"DemandTermsModel", "addPart", "(I)V"⟩ : MethodName) (⟨"DemandTermsModel", "addPart", "(I)V"⟩ : MethodName) ∈ AW := AW_s 31 (by decide +kernel) rfl
theorem ks32 : Cond.selects "DemandTermsModel" (⟨"DemandTermsModel", "isFull", "(I)Z"⟩ : MethodName) (⟨"DemandTermsModel", "isFull", "(I)Z"⟩ : MethodName) ∈ AW := AW_s 32 (by decide +kernel) rfl
theorem ks33 : Cond.selects "DemandTermsModel" (⟨"DemandTermsModel", "copy", "(II)V"⟩ : MethodName) (⟨"DemandTermsModel", "copy", "(II)V"⟩ : MethodName) ∈ AW := AW_s 33 (by decide +kernel) rfl
theorem ks34 : Cond.selects "DemandTermsModel" (⟨"DemandTermsModel", "isBar", "(I)Z"⟩ : MethodName) (⟨"DemandTermsModel", "isBar", "(I)Z"⟩ : MethodName) ∈ AW := AW_s 34 (by decide +kernel) rfl
theorem ks35 : Cond.selects "DemandTermsModel" (⟨"DemandTermsModel", "partOf", "(II)I"⟩ : MethodName) (⟨"DemandTermsModel", "partOf", "(II)I"⟩ : MethodName) ∈ AW := AW_s 35 (by decide +kernel) rfl
theorem ks36 : Cond.selects "DemandTermsModel" (⟨"DemandTermsModel", "isPart", "(II)Z"⟩ : MethodName) (⟨"DemandTermsModel", "isPart", "(II)Z"⟩ : MethodName) ∈ AW := AW_s 36 (by decide +kernel) rfl
theorem ks37 : Cond.selects "DemandTermsModel" (⟨"DemandTermsModel", "look", "(I)I"⟩ : MethodName) (⟨"DemandTermsModel", "look", "(I)I"⟩ : MethodName) ∈ AW := AW_s 37 (by decide +kernel) rfl
theorem ks38 : Cond.selects "DemandTermsModel" (⟨"DemandTermsModel", "counted", "(II)I"⟩ : MethodName) (⟨"DemandTermsModel", "counted", "(II)I"⟩ : MethodName) ∈ AW := AW_s 38 (by decide +kernel) rfl
theorem ks39 : Cond.selects "DemandTermsModel" (⟨"DemandTermsModel", "stateOf", "(I)I"⟩ : MethodName) (⟨"DemandTermsModel", "stateOf", "(I)I"⟩ : MethodName) ∈ AW := AW_s 39 (by decide +kernel) rfl
theorem ks40 : Cond.selects "DemandTermsModel" (⟨"DemandTermsModel", "openPart", "(I)I"⟩ : MethodName) (⟨"DemandTermsModel", "openPart", "(I)I"⟩ : MethodName) ∈ AW := AW_s 40 (by decide +kernel) rfl
theorem ks41 : Cond.selects "DemandTermsModel" (⟨"DemandTermsModel", "firstKept", "()I"⟩ : MethodName) (⟨"DemandTermsModel", "firstKept", "()I"⟩ : MethodName) ∈ AW := AW_s 41 (by decide +kernel) rfl
theorem ks42 : Cond.selects "DemandTermsModel" (⟨"DemandTermsModel", "put", "(I)V"⟩ : MethodName) (⟨"DemandTermsModel", "put", "(I)V"⟩ : MethodName) ∈ AW := AW_s 42 (by decide +kernel) rfl
theorem ks43 : Cond.selects "DemandTermsModel" (⟨"DemandTermsModel", "putTerm", "(I)V"⟩ : MethodName) (⟨"DemandTermsModel", "putTerm", "(I)V"⟩ : MethodName) ∈ AW := AW_s 43 (by decide +kernel) rfl
theorem ks44 : Cond.selects "DemandTermsModel" (⟨"DemandTermsModel", "putNumber", "(I)V"⟩ : MethodName) (⟨"DemandTermsModel", "putNumber", "(I)V"⟩ : MethodName) ∈ AW := AW_s 44 (by decide +kernel) rfl
end
section
theorem d_D_init_0 : decode prog_1_method_1_code 0 = .ok (.aload_n 0, 1) := by decide +kernel
theorem d_D_init_1 : decode prog_1_method_1_code 1 = .ok (.invokespecial 3, 3) := by decide +kernel
theorem d_D_init_4 : decode prog_1_method_1_code 4 = .ok (.aload_n 0, 1) := by decide +kernel
theorem d_D_init_5 : decode prog_1_method_1_code 5 = .ok (.new 9, 3) := by decide +kernel
theorem d_D_init_8 : decode prog_1_method_1_code 8 = .ok (.dup, 1) := by decide +kernel
theorem d_D_init_9 : decode prog_1_method_1_code 9 = .ok (.invokespecial 11, 3) := by decide +kernel
theorem d_D_init_12 : decode prog_1_method_1_code 12 = .ok (.putfield 12, 3) := by decide +kernel
theorem d_D_init_15 : decode prog_1_method_1_code 15 = .ok (.aload_n 0, 1) := by decide +kernel
theorem d_D_init_16 : decode prog_1_method_1_code 16 = .ok (.new 16, 3) := by decide +kernel
theorem d_D_init_19 : decode prog_1_method_1_code 19 = .ok (.dup, 1) := by decide +kernel
theorem d_D_init_20 : decode prog_1_method_1_code 20 = .ok (.invokespecial 18, 3) := by decide +kernel
theorem d_D_init_23 : decode prog_1_method_1_code 23 = .ok (.putfield 19, 3) := by decide +kernel
theorem d_D_init_26 : decode prog_1_method_1_code 26 = .ok (.aload_n 0, 1) := by decide +kernel
theorem d_D_init_27 : decode prog_1_method_1_code 27 = .ok (.new 23, 3) := by decide +kernel
theorem d_D_init_30 : decode prog_1_method_1_code 30 = .ok (.dup, 1) := by decide +kernel
theorem d_D_init_31 : decode prog_1_method_1_code 31 = .ok (.invokespecial 25, 3) := by decide +kernel
theorem d_D_init_34 : decode prog_1_method_1_code 34 = .ok (.putfield 26, 3) := by decide +kernel
theorem d_D_init_37 : decode prog_1_method_1_code 37 = .ok (.aload_n 0, 1) := by decide +kernel
theorem d_D_init_38 : decode prog_1_method_1_code 38 = .ok (.new 30, 3) := by decide +kernel
theorem d_D_init_41 : decode prog_1_method_1_code 41 = .ok (.dup, 1) := by decide +kernel
theorem d_D_init_42 : decode prog_1_method_1_code 42 = .ok (.invokespecial 32, 3) := by decide +kernel
theorem d_D_init_45 : decode prog_1_method_1_code 45 = .ok (.putfield 33, 3) := by decide +kernel
theorem d_D_init_48 : decode prog_1_method_1_code 48 = .ok (.aload_n 0, 1) := by decide +kernel
theorem d_D_init_49 : decode prog_1_method_1_code 49 = .ok (.bipush 16, 2) := by decide +kernel
theorem d_D_init_51 : decode prog_1_method_1_code 51 = .ok (.newarray .long, 2) := by decide +kernel
theorem d_D_init_53 : decode prog_1_method_1_code 53 = .ok (.putfield 37, 3) := by decide +kernel
theorem d_D_init_56 : decode prog_1_method_1_code 56 = .ok (.aload_n 0, 1) := by decide +kernel
theorem d_D_init_57 : decode prog_1_method_1_code 57 = .ok (.new 41, 3) := by decide +kernel
theorem d_D_init_60 : decode prog_1_method_1_code 60 = .ok (.dup, 1) := by decide +kernel
theorem d_D_init_61 : decode prog_1_method_1_code 61 = .ok (.invokespecial 43, 3) := by decide +kernel
theorem d_D_init_64 : decode prog_1_method_1_code 64 = .ok (.putfield 44, 3) := by decide +kernel
theorem d_D_init_67 : decode prog_1_method_1_code 67 = .ok (.return_, 1) := by decide +kernel
theorem d_N_init_0 : decode prog_3_method_1_code 0 = .ok (.aload_n 0, 1) := by decide +kernel
theorem d_N_init_1 : decode prog_3_method_1_code 1 = .ok (.invokespecial 3, 3) := by decide +kernel
theorem d_N_init_4 : decode prog_3_method_1_code 4 = .ok (.aload_n 0, 1) := by decide +kernel
theorem d_N_init_5 : decode prog_3_method_1_code 5 = .ok (.bipush 16, 2) := by decide +kernel
theorem d_N_init_7 : decode prog_3_method_1_code 7 = .ok (.newarray .long, 2) := by decide +kernel
theorem d_N_init_9 : decode prog_3_method_1_code 9 = .ok (.putfield 9, 3) := by decide +kernel
theorem d_N_init_12 : decode prog_3_method_1_code 12 = .ok (.aload_n 0, 1) := by decide +kernel
theorem d_N_init_13 : decode prog_3_method_1_code 13 = .ok (.iconst 0, 1) := by decide +kernel
theorem d_N_init_14 : decode prog_3_method_1_code 14 = .ok (.putfield 15, 3) := by decide +kernel
theorem d_N_init_17 : decode prog_3_method_1_code 17 = .ok (.return_, 1) := by decide +kernel
theorem d_T_init_0 : decode prog_6_method_1_code 0 = .ok (.aload_n 0, 1) := by decide +kernel
theorem d_T_init_1 : decode prog_6_method_1_code 1 = .ok (.invokespecial 3, 3) := by decide +kernel
theorem d_T_init_4 : decode prog_6_method_1_code 4 = .ok (.aload_n 0, 1) := by decide +kernel
theorem d_T_init_5 : decode prog_6_method_1_code 5 = .ok (.sipush 600, 3) := by decide +kernel
theorem d_T_init_8 : decode prog_6_method_1_code 8 = .ok (.newarray .int, 2) := by decide +kernel
theorem d_T_init_10 : decode prog_6_method_1_code 10 = .ok (.putfield 9, 3) := by decide +kernel
theorem d_T_init_13 : decode prog_6_method_1_code 13 = .ok (.aload_n 0, 1) := by decide +kernel
theorem d_T_init_14 : decode prog_6_method_1_code 14 = .ok (.sipush 600, 3) := by decide +kernel
theorem d_T_init_17 : decode prog_6_method_1_code 17 = .ok (.newarray .long, 2) := by decide +kernel
theorem d_T_init_19 : decode prog_6_method_1_code 19 = .ok (.putfield 15, 3) := by decide +kernel
theorem d_T_init_22 : decode prog_6_method_1_code 22 = .ok (.aload_n 0, 1) := by decide +kernel
theorem d_T_init_23 : decode prog_6_method_1_code 23 = .ok (.iconst 0, 1) := by decide +kernel
theorem d_T_init_24 : decode prog_6_method_1_code 24 = .ok (.putfield 19, 3) := by decide +kernel
theorem d_T_init_27 : decode prog_6_method_1_code 27 = .ok (.return_, 1) := by decide +kernel
theorem d_R_init_0 : decode prog_4_method_1_code 0 = .ok (.aload_n 0, 1) := by decide +kernel
theorem d_R_init_1 : decode prog_4_method_1_code 1 = .ok (.invokespecial 3, 3) := by decide +kernel
theorem d_R_init_4 : decode prog_4_method_1_code 4 = .ok (.aload_n 0, 1) := by decide +kernel
theorem d_R_init_5 : decode prog_4_method_1_code 5 = .ok (.sipush 400, 3) := by decide +kernel
theorem d_R_init_8 : decode prog_4_method_1_code 8 = .ok (.newarray .int, 2) := by decide +kernel
theorem d_R_init_10 : decode prog_4_method_1_code 10 = .ok (.putfield 9, 3) := by decide +kernel
theorem d_R_init_13 : decode prog_4_method_1_code 13 = .ok (.aload_n 0, 1) := by decide +kernel
theorem d_R_init_14 : decode prog_4_method_1_code 14 = .ok (.sipush 400, 3) := by decide +kernel
theorem d_R_init_17 : decode prog_4_method_1_code 17 = .ok (.newarray .int, 2) := by decide +kernel
theorem d_R_init_19 : decode prog_4_method_1_code 19 = .ok (.putfield 15, 3) := by decide +kernel
theorem d_R_init_22 : decode prog_4_method_1_code 22 = .ok (.aload_n 0, 1) := by decide +kernel
theorem d_R_init_23 : decode prog_4_method_1_code 23 = .ok (.sipush 400, 3) := by decide +kernel
theorem d_R_init_26 : decode prog_4_method_1_code 26 = .ok (.newarray .int, 2) := by decide +kernel
theorem d_R_init_28 : decode prog_4_method_1_code 28 = .ok (.putfield 18, 3) := by decide +kernel
theorem d_R_init_31 : decode prog_4_method_1_code 31 = .ok (.aload_n 0, 1) := by decide +kernel
theorem d_R_init_32 : decode prog_4_method_1_code 32 = .ok (.sipush 400, 3) := by decide +kernel
theorem d_R_init_35 : decode prog_4_method_1_code 35 = .ok (.newarray .long, 2) := by decide +kernel
theorem d_R_init_37 : decode prog_4_method_1_code 37 = .ok (.putfield 21, 3) := by decide +kernel
theorem d_R_init_40 : decode prog_4_method_1_code 40 = .ok (.aload_n 0, 1) := by decide +kernel
theorem d_R_init_41 : decode prog_4_method_1_code 41 = .ok (.sipush 400, 3) := by decide +kernel
theorem d_R_init_44 : decode prog_4_method_1_code 44 = .ok (.newarray .int, 2) := by decide +kernel
theorem d_R_init_46 : decode prog_4_method_1_code 46 = .ok (.putfield 25, 3) := by decide +kernel
theorem d_R_init_49 : decode prog_4_method_1_code 49 = .ok (.aload_n 0, 1) := by decide +kernel
theorem d_R_init_50 : decode prog_4_method_1_code 50 = .ok (.iconst 0, 1) := by decide +kernel
theorem d_R_init_51 : decode prog_4_method_1_code 51 = .ok (.putfield 28, 3) := by decide +kernel
theorem d_R_init_54 : decode prog_4_method_1_code 54 = .ok (.return_, 1) := by decide +kernel
theorem d_C_init_0 : decode prog_2_method_1_code 0 = .ok (.aload_n 0, 1) := by decide +kernel
theorem d_C_init_1 : decode prog_2_method_1_code 1 = .ok (.invokespecial 3, 3) := by decide +kernel
theorem d_C_init_4 : decode prog_2_method_1_code 4 = .ok (.aload_n 0, 1) := by decide +kernel
theorem d_C_init_5 : decode prog_2_method_1_code 5 = .ok (.sipush 300, 3) := by decide +kernel
theorem d_C_init_8 : decode prog_2_method_1_code 8 = .ok (.newarray .int, 2) := by decide +kernel
theorem d_C_init_10 : decode prog_2_method_1_code 10 = .ok (.putfield 9, 3) := by decide +kernel
theorem d_C_init_13 : decode prog_2_method_1_code 13 = .ok (.aload_n 0, 1) := by decide +kernel
theorem d_C_init_14 : decode prog_2_method_1_code 14 = .ok (.sipush 4800, 3) := by decide +kernel
theorem d_C_init_17 : decode prog_2_method_1_code 17 = .ok (.newarray .long, 2) := by decide +kernel
theorem d_C_init_19 : decode prog_2_method_1_code 19 = .ok (.putfield 15, 3) := by decide +kernel
theorem d_C_init_22 : decode prog_2_method_1_code 22 = .ok (.aload_n 0, 1) := by decide +kernel
theorem d_C_init_23 : decode prog_2_method_1_code 23 = .ok (.sipush 300, 3) := by decide +kernel
theorem d_C_init_26 : decode prog_2_method_1_code 26 = .ok (.newarray .int, 2) := by decide +kernel
theorem d_C_init_28 : decode prog_2_method_1_code 28 = .ok (.putfield 19, 3) := by decide +kernel
theorem d_C_init_31 : decode prog_2_method_1_code 31 = .ok (.aload_n 0, 1) := by decide +kernel
theorem d_C_init_32 : decode prog_2_method_1_code 32 = .ok (.sipush 300, 3) := by decide +kernel
theorem d_C_init_35 : decode prog_2_method_1_code 35 = .ok (.newarray .long, 2) := by decide +kernel
theorem d_C_init_37 : decode prog_2_method_1_code 37 = .ok (.putfield 22, 3) := by decide +kernel
theorem d_C_init_40 : decode prog_2_method_1_code 40 = .ok (.aload_n 0, 1) := by decide +kernel
theorem d_C_init_41 : decode prog_2_method_1_code 41 = .ok (.iconst 0, 1) := by decide +kernel
theorem d_C_init_42 : decode prog_2_method_1_code 42 = .ok (.putfield 25, 3) := by decide +kernel
theorem d_C_init_45 : decode prog_2_method_1_code 45 = .ok (.return_, 1) := by decide +kernel
theorem d_G_init_0 : decode prog_5_method_1_code 0 = .ok (.aload_n 0, 1) := by decide +kernel
theorem d_G_init_1 : decode prog_5_method_1_code 1 = .ok (.invokespecial 3, 3) := by decide +kernel
theorem d_G_init_4 : decode prog_5_method_1_code 4 = .ok (.aload_n 0, 1) := by decide +kernel
theorem d_G_init_5 : decode prog_5_method_1_code 5 = .ok (.sipush 1648, 3) := by decide +kernel
theorem d_G_init_8 : decode prog_5_method_1_code 8 = .ok (.newarray .char, 2) := by decide +kernel
theorem d_G_init_10 : decode prog_5_method_1_code 10 = .ok (.putfield 9, 3) := by decide +kernel
theorem d_G_init_13 : decode prog_5_method_1_code 13 = .ok (.aload_n 0, 1) := by decide +kernel
theorem d_G_init_14 : decode prog_5_method_1_code 14 = .ok (.iconst 0, 1) := by decide +kernel
theorem d_G_init_15 : decode prog_5_method_1_code 15 = .ok (.putfield 15, 3) := by decide +kernel
theorem d_G_init_18 : decode prog_5_method_1_code 18 = .ok (.return_, 1) := by decide +kernel
theorem d_D_versions_0 : decode prog_1_method_2_code 0 = .ok (.aload_n 0, 1) := by decide +kernel
theorem d_D_versions_1 : decode prog_1_method_2_code 1 = .ok (.getfield 12, 3) := by decide +kernel
theorem d_D_versions_4 : decode prog_1_method_2_code 4 = .ok (.iload_n 1, 1) := by decide +kernel
theorem d_D_versions_5 : decode prog_1_method_2_code 5 = .ok (.invokevirtual 48, 3) := by decide +kernel
theorem d_D_versions_8 : decode prog_1_method_2_code 8 = .ok (.istore_n 2, 1) := by decide +kernel
theorem d_D_versions_9 : decode prog_1_method_2_code 9 = .ok (.iload_n 2, 1) := by decide +kernel
theorem d_D_versions_10 : decode prog_1_method_2_code 10 = .ok (.iconst (-1), 1) := by decide +kernel
theorem d_D_versions_11 : decode prog_1_method_2_code 11 = .ok (.if_icmp .eq 17, 3) := by decide +kernel
theorem d_D_versions_14 : decode prog_1_method_2_code 14 = .ok (.aload_n 0, 1) := by decide +kernel
theorem d_D_versions_15 : decode prog_1_method_2_code 15 = .ok (.getfield 37, 3) := by decide +kernel
theorem d_D_versions_18 : decode prog_1_method_2_code 18 = .ok (.iload_n 2, 1) := by decide +kernel
theorem d_D_versions_19 : decode prog_1_method_2_code 19 = .ok (.aload_n 0, 1) := by decide +kernel
theorem d_D_versions_20 : decode prog_1_method_2_code 20 = .ok (.getfield 12, 3) := by decide +kernel
theorem d_D_versions_23 : decode prog_1_method_2_code 23 = .ok (.iload_n 2, 1) := by decide +kernel
theorem d_D_versions_24 : decode prog_1_method_2_code 24 = .ok (.invokevirtual 52, 3) := by decide +kernel
theorem d_D_versions_27 : decode prog_1_method_2_code 27 = .ok (.lastore, 1) := by decide +kernel
theorem d_D_versions_28 : decode prog_1_method_2_code 28 = .ok (.iload_n 2, 1) := by decide +kernel
theorem d_D_versions_29 : decode prog_1_method_2_code 29 = .ok (.ireturn, 1) := by decide +kernel
theorem d_N_add_0 : decode prog_3_method_3_code 0 = .ok (.aload_n 0, 1) := by decide +kernel
theorem d_N_add_1 : decode prog_3_method_3_code 1 = .ok (.getfield 15, 3) := by decide +kernel
theorem d_N_add_4 : decode prog_3_method_3_code 4 = .ok (.bipush 16, 2) := by decide +kernel
theorem d_N_add_6 : decode prog_3_method_3_code 6 = .ok (.if_icmp .ge 13, 3) := by decide +kernel
theorem d_N_add_9 : decode prog_3_method_3_code 9 = .ok (.iload_n 1, 1) := by decide +kernel
theorem d_N_add_10 : decode prog_3_method_3_code 10 = .ok (.ifCond .lt 9, 3) := by decide +kernel
theorem d_N_add_13 : decode prog_3_method_3_code 13 = .ok (.iload_n 1, 1) := by decide +kernel
theorem d_N_add_14 : decode prog_3_method_3_code 14 = .ok (.bipush 48, 2) := by decide +kernel
theorem d_N_add_16 : decode prog_3_method_3_code 16 = .ok (.if_icmp .le 5, 3) := by decide +kernel
theorem d_N_add_19 : decode prog_3_method_3_code 19 = .ok (.iconst (-1), 1) := by decide +kernel
theorem d_N_add_20 : decode prog_3_method_3_code 20 = .ok (.ireturn, 1) := by decide +kernel
theorem d_N_add_21 : decode prog_3_method_3_code 21 = .ok (.aload_n 0, 1) := by decide +kernel
theorem d_N_add_22 : decode prog_3_method_3_code 22 = .ok (.getfield 9, 3) := by decide +kernel
theorem d_N_add_25 : decode prog_3_method_3_code 25 = .ok (.aload_n 0, 1) := by decide +kernel
theorem d_N_add_26 : decode prog_3_method_3_code 26 = .ok (.getfield 15, 3) := by decide +kernel
theorem d_N_add_29 : decode prog_3_method_3_code 29 = .ok (.lconst 1, 1) := by decide +kernel
theorem d_N_add_30 : decode prog_3_method_3_code 30 = .ok (.iload_n 1, 1) := by decide +kernel
theorem d_N_add_31 : decode prog_3_method_3_code 31 = .ok (.lshl, 1) := by decide +kernel
theorem d_N_add_32 : decode prog_3_method_3_code 32 = .ok (.lconst 1, 1) := by decide +kernel
theorem d_N_add_33 : decode prog_3_method_3_code 33 = .ok (.lsub, 1) := by decide +kernel
theorem d_N_add_34 : decode prog_3_method_3_code 34 = .ok (.ldc2_w 19, 3) := by decide +kernel
theorem d_N_add_37 : decode prog_3_method_3_code 37 = .ok (.lor, 1) := by decide +kernel
theorem d_N_add_38 : decode prog_3_method_3_code 38 = .ok (.lastore, 1) := by decide +kernel
theorem d_N_add_39 : decode prog_3_method_3_code 39 = .ok (.aload_n 0, 1) := by decide +kernel
theorem d_N_add_40 : decode prog_3_method_3_code 40 = .ok (.dup, 1) := by decide +kernel
theorem d_N_add_41 : decode prog_3_method_3_code 41 = .ok (.getfield 15, 3) := by decide +kernel
theorem d_N_add_44 : decode prog_3_method_3_code 44 = .ok (.iconst 1, 1) := by decide +kernel
theorem d_N_add_45 : decode prog_3_method_3_code 45 = .ok (.iadd, 1) := by decide +kernel
theorem d_N_add_46 : decode prog_3_method_3_code 46 = .ok (.putfield 15, 3) := by decide +kernel
theorem d_N_add_49 : decode prog_3_method_3_code 49 = .ok (.aload_n 0, 1) := by decide +kernel
theorem d_N_add_50 : decode prog_3_method_3_code 50 = .ok (.getfield 15, 3) := by decide +kernel
theorem d_N_add_53 : decode prog_3_method_3_code 53 = .ok (.iconst 1, 1) := by decide +kernel
theorem d_N_add_54 : decode prog_3_method_3_code 54 = .ok (.isub, 1) := by decide +kernel
theorem d_N_add_55 : decode prog_3_method_3_code 55 = .ok (.ireturn, 1) := by decide +kernel
theorem d_N_everywhere_0 : decode prog_3_method_6_code 0 = .ok (.aload_n 0, 1) := by decide +kernel
theorem d_N_everywhere_1 : decode prog_3_method_6_code 1 = .ok (.iload_n 1, 1) := by decide +kernel
theorem d_N_everywhere_2 : decode prog_3_method_6_code 2 = .ok (.invokevirtual 29, 3) := by decide +kernel
theorem d_N_everywhere_5 : decode prog_3_method_6_code 5 = .ok (.ifCond .eq 12, 3) := by decide +kernel
theorem d_N_everywhere_8 : decode prog_3_method_6_code 8 = .ok (.aload_n 0, 1) := by decide +kernel
theorem d_N_everywhere_9 : decode prog_3_method_6_code 9 = .ok (.getfield 9, 3) := by decide +kernel
theorem d_N_everywhere_12 : decode prog_3_method_6_code 12 = .ok (.iload_n 1, 1) := by decide +kernel
theorem d_N_everywhere_13 : decode prog_3_method_6_code 13 = .ok (.laload, 1) := by decide +kernel
theorem d_N_everywhere_14 : decode prog_3_method_6_code 14 = .ok (.goto 4, 3) := by decide +kernel
theorem d_N_everywhere_17 : decode prog_3_method_6_code 17 = .ok (.lconst 0, 1) := by decide +kernel
theorem d_N_everywhere_18 : decode prog_3_method_6_code 18 = .ok (.lreturn, 1) := by decide +kernel
theorem d_N_has_0 : decode prog_3_method_4_code 0 = .ok (.iload_n 1, 1) := by decide +kernel
theorem d_N_has_1 : decode prog_3_method_4_code 1 = .ok (.ifCond .lt 15, 3) := by decide +kernel
theorem d_N_has_4 : decode prog_3_method_4_code 4 = .ok (.iload_n 1, 1) := by decide +kernel
theorem d_N_has_5 : decode prog_3_method_4_code 5 = .ok (.aload_n 0, 1) := by decide +kernel
theorem d_N_has_6 : decode prog_3_method_4_code 6 = .ok (.getfield 15, 3) := by decide +kernel
theorem d_N_has_9 : decode prog_3_method_4_code 9 = .ok (.if_icmp .ge 7, 3) := by decide +kernel
theorem d_N_has_12 : decode prog_3_method_4_code 12 = .ok (.iconst 1, 1) := by decide +kernel
theorem d_N_has_13 : decode prog_3_method_4_code 13 = .ok (.goto 4, 3) := by decide +kernel
theorem d_N_has_16 : decode prog_3_method_4_code 16 = .ok (.iconst 0, 1) := by decide +kernel
theorem d_N_has_17 : decode prog_3_method_4_code 17 = .ok (.ireturn, 1) := by decide +kernel
theorem d_D_term_0 : decode prog_1_method_3_code 0 = .ok (.aload_n 0, 1) := by decide +kernel
theorem d_D_term_1 : decode prog_1_method_3_code 1 = .ok (.getfield 12, 3) := by decide +kernel
theorem d_D_term_4 : decode prog_1_method_3_code 4 = .ok (.iload_n 1, 1) := by decide +kernel
theorem d_D_term_5 : decode prog_1_method_3_code 5 = .ok (.invokevirtual 56, 3) := by decide +kernel
theorem d_D_term_8 : decode prog_1_method_3_code 8 = .ok (.ifCond .ne 5, 3) := by decide +kernel
theorem d_D_term_11 : decode prog_1_method_3_code 11 = .ok (.iconst (-1), 1) := by decide +kernel
theorem d_D_term_12 : decode prog_1_method_3_code 12 = .ok (.ireturn, 1) := by decide +kernel
theorem d_D_term_13 : decode prog_1_method_3_code 13 = .ok (.aload_n 0, 1) := by decide +kernel
theorem d_D_term_14 : decode prog_1_method_3_code 14 = .ok (.getfield 19, 3) := by decide +kernel
theorem d_D_term_17 : decode prog_1_method_3_code 17 = .ok (.iload_n 1, 1) := by decide +kernel
theorem d_D_term_18 : decode prog_1_method_3_code 18 = .ok (.aload_n 0, 1) := by decide +kernel
theorem d_D_term_19 : decode prog_1_method_3_code 19 = .ok (.getfield 12, 3) := by decide +kernel
theorem d_D_term_22 : decode prog_1_method_3_code 22 = .ok (.iload_n 1, 1) := by decide +kernel
theorem d_D_term_23 : decode prog_1_method_3_code 23 = .ok (.lload_n 2, 1) := by decide +kernel
theorem d_D_term_24 : decode prog_1_method_3_code 24 = .ok (.iload 4, 2) := by decide +kernel
theorem d_D_term_26 : decode prog_1_method_3_code 26 = .ok (.invokevirtual 60, 3) := by decide +kernel
theorem d_D_term_29 : decode prog_1_method_3_code 29 = .ok (.invokevirtual 64, 3) := by decide +kernel
theorem d_D_term_32 : decode prog_1_method_3_code 32 = .ok (.ireturn, 1) := by decide +kernel
theorem d_N_placesOf_0 : decode prog_3_method_7_code 0 = .ok (.lload_n 2, 1) := by decide +kernel
theorem d_N_placesOf_1 : decode prog_3_method_7_code 1 = .ok (.aload_n 0, 1) := by decide +kernel
theorem d_N_placesOf_2 : decode prog_3_method_7_code 2 = .ok (.iload_n 1, 1) := by decide +kernel
theorem d_N_placesOf_3 : decode prog_3_method_7_code 3 = .ok (.invokevirtual 21, 3) := by decide +kernel
theorem d_N_placesOf_6 : decode prog_3_method_7_code 6 = .ok (.land, 1) := by decide +kernel
theorem d_N_placesOf_7 : decode prog_3_method_7_code 7 = .ok (.ldc2_w 33, 3) := by decide +kernel
theorem d_N_placesOf_10 : decode prog_3_method_7_code 10 = .ok (.land, 1) := by decide +kernel
theorem d_N_placesOf_11 : decode prog_3_method_7_code 11 = .ok (.lstore 5, 2) := by decide +kernel
theorem d_N_placesOf_13 : decode prog_3_method_7_code 13 = .ok (.iload 4, 2) := by decide +kernel
theorem d_N_placesOf_15 : decode prog_3_method_7_code 15 = .ok (.ifCond .eq 8, 3) := by decide +kernel
theorem d_N_placesOf_18 : decode prog_3_method_7_code 18 = .ok (.lload 5, 2) := by decide +kernel
theorem d_N_placesOf_20 : decode prog_3_method_7_code 20 = .ok (.goto 11, 3) := by decide +kernel
theorem d_N_placesOf_23 : decode prog_3_method_7_code 23 = .ok (.aload_n 0, 1) := by decide +kernel
theorem d_N_placesOf_24 : decode prog_3_method_7_code 24 = .ok (.iload_n 1, 1) := by decide +kernel
theorem d_N_placesOf_25 : decode prog_3_method_7_code 25 = .ok (.invokevirtual 21, 3) := by decide +kernel
theorem d_N_placesOf_28 : decode prog_3_method_7_code 28 = .ok (.lload 5, 2) := by decide +kernel
theorem d_N_placesOf_30 : decode prog_3_method_7_code 30 = .ok (.lxor, 1) := by decide +kernel
theorem d_N_placesOf_31 : decode prog_3_method_7_code 31 = .ok (.lreturn, 1) := by decide +kernel
theorem d_T_add_0 : decode prog_6_method_3_code 0 = .ok (.aload_n 0, 1) := by decide +kernel
theorem d_T_add_1 : decode prog_6_method_3_code 1 = .ok (.getfield 19, 3) := by decide +kernel
theorem d_T_add_4 : decode prog_6_method_3_code 4 = .ok (.sipush 600, 3) := by decide +kernel
theorem d_T_add_7 : decode prog_6_method_3_code 7 = .ok (.if_icmp .lt 5, 3) := by decide +kernel
theorem d_T_add_10 : decode prog_6_method_3_code 10 = .ok (.iconst (-1), 1) := by decide +kernel
theorem d_T_add_11 : decode prog_6_method_3_code 11 = .ok (.ireturn, 1) := by decide +kernel
theorem d_T_add_12 : decode prog_6_method_3_code 12 = .ok (.aload_n 0, 1) := by decide +kernel
theorem d_T_add_13 : decode prog_6_method_3_code 13 = .ok (.getfield 9, 3) := by decide +kernel
theorem d_T_add_16 : decode prog_6_method_3_code 16 = .ok (.aload_n 0, 1) := by decide +kernel
theorem d_T_add_17 : decode prog_6_method_3_code 17 = .ok (.getfield 19, 3) := by decide +kernel
theorem d_T_add_20 : decode prog_6_method_3_code 20 = .ok (.iload_n 1, 1) := by decide +kernel
theorem d_T_add_21 : decode prog_6_method_3_code 21 = .ok (.iastore, 1) := by decide +kernel
theorem d_T_add_22 : decode prog_6_method_3_code 22 = .ok (.aload_n 0, 1) := by decide +kernel
theorem d_T_add_23 : decode prog_6_method_3_code 23 = .ok (.getfield 15, 3) := by decide +kernel
theorem d_T_add_26 : decode prog_6_method_3_code 26 = .ok (.aload_n 0, 1) := by decide +kernel
theorem d_T_add_27 : decode prog_6_method_3_code 27 = .ok (.getfield 19, 3) := by decide +kernel
theorem d_T_add_30 : decode prog_6_method_3_code 30 = .ok (.lload_n 2, 1) := by decide +kernel
theorem d_T_add_31 : decode prog_6_method_3_code 31 = .ok (.lastore, 1) := by decide +kernel
theorem d_T_add_32 : decode prog_6_method_3_code 32 = .ok (.aload_n 0, 1) := by decide +kernel
theorem d_T_add_33 : decode prog_6_method_3_code 33 = .ok (.dup, 1) := by decide +kernel
theorem d_T_add_34 : decode prog_6_method_3_code 34 = .ok (.getfield 19, 3) := by decide +kernel
theorem d_T_add_37 : decode prog_6_method_3_code 37 = .ok (.iconst 1, 1) := by decide +kernel
theorem d_T_add_38 : decode prog_6_method_3_code 38 = .ok (.iadd, 1) := by decide +kernel
theorem d_T_add_39 : decode prog_6_method_3_code 39 = .ok (.putfield 19, 3) := by decide +kernel
theorem d_T_add_42 : decode prog_6_method_3_code 42 = .ok (.aload_n 0, 1) := by decide +kernel
theorem d_T_add_43 : decode prog_6_method_3_code 43 = .ok (.getfield 19, 3) := by decide +kernel
theorem d_T_add_46 : decode prog_6_method_3_code 46 = .ok (.iconst 1, 1) := by decide +kernel
theorem d_T_add_47 : decode prog_6_method_3_code 47 = .ok (.isub, 1) := by decide +kernel
theorem d_T_add_48 : decode prog_6_method_3_code 48 = .ok (.ireturn, 1) := by decide +kernel
theorem d_D_both_0 : decode prog_1_method_4_code 0 = .ok (.aload_n 0, 1) := by decide +kernel
theorem d_D_both_1 : decode prog_1_method_4_code 1 = .ok (.getfield 19, 3) := by decide +kernel
theorem d_D_both_4 : decode prog_1_method_4_code 4 = .ok (.iload_n 1, 1) := by decide +kernel
theorem d_D_both_5 : decode prog_1_method_4_code 5 = .ok (.invokevirtual 67, 3) := by decide +kernel
theorem d_D_both_8 : decode prog_1_method_4_code 8 = .ok (.ifCond .eq 33, 3) := by decide +kernel
theorem d_D_both_11 : decode prog_1_method_4_code 11 = .ok (.aload_n 0, 1) := by decide +kernel
theorem d_D_both_12 : decode prog_1_method_4_code 12 = .ok (.getfield 19, 3) := by decide +kernel
theorem d_D_both_15 : decode prog_1_method_4_code 15 = .ok (.iload_n 2, 1) := by decide +kernel
theorem d_D_both_16 : decode prog_1_method_4_code 16 = .ok (.invokevirtual 67, 3) := by decide +kernel
theorem d_D_both_19 : decode prog_1_method_4_code 19 = .ok (.ifCond .eq 22, 3) := by decide +kernel
theorem d_D_both_22 : decode prog_1_method_4_code 22 = .ok (.aload_n 0, 1) := by decide +kernel
theorem d_D_both_23 : decode prog_1_method_4_code 23 = .ok (.getfield 19, 3) := by decide +kernel
theorem d_D_both_26 : decode prog_1_method_4_code 26 = .ok (.iload_n 1, 1) := by decide +kernel
theorem d_D_both_27 : decode prog_1_method_4_code 27 = .ok (.invokevirtual 68, 3) := by decide +kernel
theorem d_D_both_30 : decode prog_1_method_4_code 30 = .ok (.aload_n 0, 1) := by decide +kernel
theorem d_D_both_31 : decode prog_1_method_4_code 31 = .ok (.getfield 19, 3) := by decide +kernel
theorem d_D_both_34 : decode prog_1_method_4_code 34 = .ok (.iload_n 2, 1) := by decide +kernel
theorem d_D_both_35 : decode prog_1_method_4_code 35 = .ok (.invokevirtual 68, 3) := by decide +kernel
theorem d_D_both_38 : decode prog_1_method_4_code 38 = .ok (.if_icmp .eq 5, 3) := by decide +kernel
theorem d_D_both_41 : decode prog_1_method_4_code 41 = .ok (.iconst (-1), 1) := by decide +kernel
theorem d_D_both_42 : decode prog_1_method_4_code 42 = .ok (.ireturn, 1) := by decide +kernel
theorem d_D_both_43 : decode prog_1_method_4_code 43 = .ok (.aload_n 0, 1) := by decide +kernel
theorem d_D_both_44 : decode prog_1_method_4_code 44 = .ok (.getfield 19, 3) := by decide +kernel
theorem d_D_both_47 : decode prog_1_method_4_code 47 = .ok (.iload_n 1, 1) := by decide +kernel
theorem d_D_both_48 : decode prog_1_method_4_code 48 = .ok (.invokevirtual 71, 3) := by decide +kernel
theorem d_D_both_51 : decode prog_1_method_4_code 51 = .ok (.lstore 4, 2) := by decide +kernel
theorem d_D_both_53 : decode prog_1_method_4_code 53 = .ok (.aload_n 0, 1) := by decide +kernel
theorem d_D_both_54 : decode prog_1_method_4_code 54 = .ok (.getfield 19, 3) := by decide +kernel
theorem d_D_both_57 : decode prog_1_method_4_code 57 = .ok (.iload_n 2, 1) := by decide +kernel
theorem d_D_both_58 : decode prog_1_method_4_code 58 = .ok (.invokevirtual 71, 3) := by decide +kernel
theorem d_D_both_61 : decode prog_1_method_4_code 61 = .ok (.lstore 6, 2) := by decide +kernel
theorem d_D_both_63 : decode prog_1_method_4_code 63 = .ok (.aload_n 0, 1) := by decide +kernel
theorem d_D_both_64 : decode prog_1_method_4_code 64 = .ok (.getfield 19, 3) := by decide +kernel
theorem d_D_both_67 : decode prog_1_method_4_code 67 = .ok (.aload_n 0, 1) := by decide +kernel
theorem d_D_both_68 : decode prog_1_method_4_code 68 = .ok (.getfield 19, 3) := by decide +kernel
theorem d_D_both_71 : decode prog_1_method_4_code 71 = .ok (.iload_n 1, 1) := by decide +kernel
theorem d_D_both_72 : decode prog_1_method_4_code 72 = .ok (.invokevirtual 68, 3) := by decide +kernel
theorem d_D_both_75 : decode prog_1_method_4_code 75 = .ok (.iload_n 3, 1) := by decide +kernel
theorem d_D_both_76 : decode prog_1_method_4_code 76 = .ok (.ifCond .eq 11, 3) := by decide +kernel
theorem d_D_both_79 : decode prog_1_method_4_code 79 = .ok (.lload 4, 2) := by decide +kernel
theorem d_D_both_81 : decode prog_1_method_4_code 81 = .ok (.lload 6, 2) := by decide +kernel
theorem d_D_both_83 : decode prog_1_method_4_code 83 = .ok (.lor, 1) := by decide +kernel
theorem d_D_both_84 : decode prog_1_method_4_code 84 = .ok (.goto 8, 3) := by decide +kernel
theorem d_D_both_87 : decode prog_1_method_4_code 87 = .ok (.lload 4, 2) := by decide +kernel
theorem d_D_both_89 : decode prog_1_method_4_code 89 = .ok (.lload 6, 2) := by decide +kernel
theorem d_D_both_91 : decode prog_1_method_4_code 91 = .ok (.land, 1) := by decide +kernel
theorem d_D_both_92 : decode prog_1_method_4_code 92 = .ok (.invokevirtual 64, 3) := by decide +kernel
theorem d_D_both_95 : decode prog_1_method_4_code 95 = .ok (.ireturn, 1) := by decide +kernel
theorem d_T_has_0 : decode prog_6_method_2_code 0 = .ok (.iload_n 1, 1) := by decide +kernel
theorem d_T_has_1 : decode prog_6_method_2_code 1 = .ok (.ifCond .lt 15, 3) := by decide +kernel
theorem d_T_has_4 : decode prog_6_method_2_code 4 = .ok (.iload_n 1, 1) := by decide +kernel
theorem d_T_has_5 : decode prog_6_method_2_code 5 = .ok (.aload_n 0, 1) := by decide +kernel
theorem d_T_has_6 : decode prog_6_method_2_code 6 = .ok (.getfield 19, 3) := by decide +kernel
theorem d_T_has_9 : decode prog_6_method_2_code 9 = .ok (.if_icmp .ge 7, 3) := by decide +kernel
theorem d_T_has_12 : decode prog_6_method_2_code 12 = .ok (.iconst 1, 1) := by decide +kernel
theorem d_T_has_13 : decode prog_6_method_2_code 13 = .ok (.goto 4, 3) := by decide +kernel
theorem d_T_has_16 : decode prog_6_method_2_code 16 = .ok (.iconst 0, 1) := by decide +kernel
theorem d_T_has_17 : decode prog_6_method_2_code 17 = .ok (.ireturn, 1) := by decide +kernel
theorem d_T_nameOf_0 : decode prog_6_method_4_code 0 = .ok (.aload_n 0, 1) := by decide +kernel
theorem d_T_nameOf_1 : decode prog_6_method_4_code 1 = .ok (.iload_n 1, 1) := by decide +kernel
theorem d_T_nameOf_2 : decode prog_6_method_4_code 2 = .ok (.invokevirtual 23, 3) := by decide +kernel
theorem d_T_nameOf_5 : decode prog_6_method_4_code 5 = .ok (.ifCond .eq 12, 3) := by decide +kernel
theorem d_T_nameOf_8 : decode prog_6_method_4_code 8 = .ok (.aload_n 0, 1) := by decide +kernel
theorem d_T_nameOf_9 : decode prog_6_method_4_code 9 = .ok (.getfield 9, 3) := by decide +kernel
theorem d_T_nameOf_12 : decode prog_6_method_4_code 12 = .ok (.iload_n 1, 1) := by decide +kernel
theorem d_T_nameOf_13 : decode prog_6_method_4_code 13 = .ok (.iaload, 1) := by decide +kernel
theorem d_T_nameOf_14 : decode prog_6_method_4_code 14 = .ok (.goto 4, 3) := by decide +kernel
theorem d_T_nameOf_17 : decode prog_6_method_4_code 17 = .ok (.iconst (-1), 1) := by decide +kernel
theorem d_T_nameOf_18 : decode prog_6_method_4_code 18 = .ok (.ireturn, 1) := by decide +kernel
theorem d_T_placesOf_0 : decode prog_6_method_5_code 0 = .ok (.aload_n 0, 1) := by decide +kernel
theorem d_T_placesOf_1 : decode prog_6_method_5_code 1 = .ok (.iload_n 1, 1) := by decide +kernel
theorem d_T_placesOf_2 : decode prog_6_method_5_code 2 = .ok (.invokevirtual 23, 3) := by decide +kernel
theorem d_T_placesOf_5 : decode prog_6_method_5_code 5 = .ok (.ifCond .eq 12, 3) := by decide +kernel
theorem d_T_placesOf_8 : decode prog_6_method_5_code 8 = .ok (.aload_n 0, 1) := by decide +kernel
theorem d_T_placesOf_9 : decode prog_6_method_5_code 9 = .ok (.getfield 15, 3) := by decide +kernel
theorem d_T_placesOf_12 : decode prog_6_method_5_code 12 = .ok (.iload_n 1, 1) := by decide +kernel
theorem d_T_placesOf_13 : decode prog_6_method_5_code 13 = .ok (.laload, 1) := by decide +kernel
theorem d_T_placesOf_14 : decode prog_6_method_5_code 14 = .ok (.goto 4, 3) := by decide +kernel
theorem d_T_placesOf_17 : decode prog_6_method_5_code 17 = .ok (.lconst 0, 1) := by decide +kernel
theorem d_T_placesOf_18 : decode prog_6_method_5_code 18 = .ok (.lreturn, 1) := by decide +kernel
theorem d_D_relate_0 : decode prog_1_method_5_code 0 = .ok (.aload_n 0, 1) := by decide +kernel
theorem d_D_relate_1 : decode prog_1_method_5_code 1 = .ok (.getfield 19, 3) := by decide +kernel
theorem d_D_relate_4 : decode prog_1_method_5_code 4 = .ok (.iload_n 1, 1) := by decide +kernel
theorem d_D_relate_5 : decode prog_1_method_5_code 5 = .ok (.invokevirtual 67, 3) := by decide +kernel
theorem d_D_relate_8 : decode prog_1_method_5_code 8 = .ok (.ifCond .eq 14, 3) := by decide +kernel
theorem d_D_relate_11 : decode prog_1_method_5_code 11 = .ok (.aload_n 0, 1) := by decide +kernel
theorem d_D_relate_12 : decode prog_1_method_5_code 12 = .ok (.getfield 19, 3) := by decide +kernel
theorem d_D_relate_15 : decode prog_1_method_5_code 15 = .ok (.iload_n 2, 1) := by decide +kernel
theorem d_D_relate_16 : decode prog_1_method_5_code 16 = .ok (.invokevirtual 67, 3) := by decide +kernel
theorem d_D_relate_19 : decode prog_1_method_5_code 19 = .ok (.ifCond .ne 6, 3) := by decide +kernel
theorem d_D_relate_22 : decode prog_1_method_5_code 22 = .ok (.bipush (-2), 2) := by decide +kernel
theorem d_D_relate_24 : decode prog_1_method_5_code 24 = .ok (.ireturn, 1) := by decide +kernel
theorem d_D_relate_25 : decode prog_1_method_5_code 25 = .ok (.aload_n 0, 1) := by decide +kernel
theorem d_D_relate_26 : decode prog_1_method_5_code 26 = .ok (.getfield 19, 3) := by decide +kernel
theorem d_D_relate_29 : decode prog_1_method_5_code 29 = .ok (.iload_n 1, 1) := by decide +kernel
theorem d_D_relate_30 : decode prog_1_method_5_code 30 = .ok (.invokevirtual 71, 3) := by decide +kernel
theorem d_D_relate_33 : decode prog_1_method_5_code 33 = .ok (.lstore_n 3, 1) := by decide +kernel
theorem d_D_relate_34 : decode prog_1_method_5_code 34 = .ok (.lload_n 3, 1) := by decide +kernel
theorem d_D_relate_35 : decode prog_1_method_5_code 35 = .ok (.lconst 0, 1) := by decide +kernel
theorem d_D_relate_36 : decode prog_1_method_5_code 36 = .ok (.lcmp, 1) := by decide +kernel
theorem d_D_relate_37 : decode prog_1_method_5_code 37 = .ok (.ifCond .eq 24, 3) := by decide +kernel
theorem d_D_relate_40 : decode prog_1_method_5_code 40 = .ok (.aload_n 0, 1) := by decide +kernel
theorem d_D_relate_41 : decode prog_1_method_5_code 41 = .ok (.getfield 19, 3) := by decide +kernel
theorem d_D_relate_44 : decode prog_1_method_5_code 44 = .ok (.iload_n 1, 1) := by decide +kernel
theorem d_D_relate_45 : decode prog_1_method_5_code 45 = .ok (.invokevirtual 68, 3) := by decide +kernel
theorem d_D_relate_48 : decode prog_1_method_5_code 48 = .ok (.aload_n 0, 1) := by decide +kernel
theorem d_D_relate_49 : decode prog_1_method_5_code 49 = .ok (.getfield 19, 3) := by decide +kernel
theorem d_D_relate_52 : decode prog_1_method_5_code 52 = .ok (.iload_n 2, 1) := by decide +kernel
theorem d_D_relate_53 : decode prog_1_method_5_code 53 = .ok (.invokevirtual 68, 3) := by decide +kernel
theorem d_D_relate_56 : decode prog_1_method_5_code 56 = .ok (.if_icmp .eq 5, 3) := by decide +kernel
theorem d_D_relate_59 : decode prog_1_method_5_code 59 = .ok (.iconst 0, 1) := by decide +kernel
theorem d_D_relate_60 : decode prog_1_method_5_code 60 = .ok (.ireturn, 1) := by decide +kernel
theorem d_D_relate_61 : decode prog_1_method_5_code 61 = .ok (.lload_n 3, 1) := by decide +kernel
theorem d_D_relate_62 : decode prog_1_method_5_code 62 = .ok (.aload_n 0, 1) := by decide +kernel
theorem d_D_relate_63 : decode prog_1_method_5_code 63 = .ok (.getfield 19, 3) := by decide +kernel
theorem d_D_relate_66 : decode prog_1_method_5_code 66 = .ok (.iload_n 2, 1) := by decide +kernel
theorem d_D_relate_67 : decode prog_1_method_5_code 67 = .ok (.invokevirtual 71, 3) := by decide +kernel
theorem d_D_relate_70 : decode prog_1_method_5_code 70 = .ok (.invokestatic 73, 3) := by decide +kernel
theorem d_D_relate_73 : decode prog_1_method_5_code 73 = .ok (.ireturn, 1) := by decide +kernel
theorem d_D_relation_0 : decode prog_1_method_39_code 0 = .ok (.lload_n 0, 1) := by decide +kernel
theorem d_D_relation_1 : decode prog_1_method_39_code 1 = .ok (.lload_n 2, 1) := by decide +kernel
theorem d_D_relation_2 : decode prog_1_method_39_code 2 = .ok (.land, 1) := by decide +kernel
theorem d_D_relation_3 : decode prog_1_method_39_code 3 = .ok (.lconst 0, 1) := by decide +kernel
theorem d_D_relation_4 : decode prog_1_method_39_code 4 = .ok (.lcmp, 1) := by decide +kernel
theorem d_D_relation_5 : decode prog_1_method_39_code 5 = .ok (.ifCond .ne 5, 3) := by decide +kernel
theorem d_D_relation_8 : decode prog_1_method_39_code 8 = .ok (.iconst (-1), 1) := by decide +kernel
theorem d_D_relation_9 : decode prog_1_method_39_code 9 = .ok (.ireturn, 1) := by decide +kernel
theorem d_D_relation_10 : decode prog_1_method_39_code 10 = .ok (.lload_n 0, 1) := by decide +kernel
theorem d_D_relation_11 : decode prog_1_method_39_code 11 = .ok (.lload_n 2, 1) := by decide +kernel
theorem d_D_relation_12 : decode prog_1_method_39_code 12 = .ok (.ldc2_w 219, 3) := by decide +kernel
theorem d_D_relation_15 : decode prog_1_method_39_code 15 = .ok (.lxor, 1) := by decide +kernel
theorem d_D_relation_16 : decode prog_1_method_39_code 16 = .ok (.land, 1) := by decide +kernel
theorem d_D_relation_17 : decode prog_1_method_39_code 17 = .ok (.lconst 0, 1) := by decide +kernel
theorem d_D_relation_18 : decode prog_1_method_39_code 18 = .ok (.lcmp, 1) := by decide +kernel
theorem d_D_relation_19 : decode prog_1_method_39_code 19 = .ok (.ifCond .ne 7, 3) := by decide +kernel
theorem d_D_relation_22 : decode prog_1_method_39_code 22 = .ok (.iconst 1, 1) := by decide +kernel
theorem d_D_relation_23 : decode prog_1_method_39_code 23 = .ok (.goto 4, 3) := by decide +kernel
theorem d_D_relation_26 : decode prog_1_method_39_code 26 = .ok (.iconst 0, 1) := by decide +kernel
theorem d_D_relation_27 : decode prog_1_method_39_code 27 = .ok (.ireturn, 1) := by decide +kernel
theorem d_D_about_0 : decode prog_1_method_6_code 0 = .ok (.aload_n 0, 1) := by decide +kernel
theorem d_D_about_1 : decode prog_1_method_6_code 1 = .ok (.getfield 19, 3) := by decide +kernel
theorem d_D_about_4 : decode prog_1_method_6_code 4 = .ok (.iload_n 1, 1) := by decide +kernel
theorem d_D_about_5 : decode prog_1_method_6_code 5 = .ok (.invokevirtual 67, 3) := by decide +kernel
theorem d_D_about_8 : decode prog_1_method_6_code 8 = .ok (.ifCond .ne 5, 3) := by decide +kernel
theorem d_D_about_11 : decode prog_1_method_6_code 11 = .ok (.iconst (-1), 1) := by decide +kernel
theorem d_D_about_12 : decode prog_1_method_6_code 12 = .ok (.ireturn, 1) := by decide +kernel
theorem d_D_about_13 : decode prog_1_method_6_code 13 = .ok (.aload_n 0, 1) := by decide +kernel
theorem d_D_about_14 : decode prog_1_method_6_code 14 = .ok (.aload_n 0, 1) := by decide +kernel
theorem d_D_about_15 : decode prog_1_method_6_code 15 = .ok (.getfield 19, 3) := by decide +kernel
theorem d_D_about_18 : decode prog_1_method_6_code 18 = .ok (.iload_n 1, 1) := by decide +kernel
theorem d_D_about_19 : decode prog_1_method_6_code 19 = .ok (.invokevirtual 68, 3) := by decide +kernel
theorem d_D_about_22 : decode prog_1_method_6_code 22 = .ok (.aload_n 0, 1) := by decide +kernel
theorem d_D_about_23 : decode prog_1_method_6_code 23 = .ok (.getfield 19, 3) := by decide +kernel
theorem d_D_about_26 : decode prog_1_method_6_code 26 = .ok (.iload_n 1, 1) := by decide +kernel
theorem d_D_about_27 : decode prog_1_method_6_code 27 = .ok (.invokevirtual 71, 3) := by decide +kernel
theorem d_D_about_30 : decode prog_1_method_6_code 30 = .ok (.iload_n 2, 1) := by decide +kernel
theorem d_D_about_31 : decode prog_1_method_6_code 31 = .ok (.invokevirtual 77, 3) := by decide +kernel
theorem d_D_about_34 : decode prog_1_method_6_code 34 = .ok (.ireturn, 1) := by decide +kernel
theorem d_D_describe_0 : decode prog_1_method_25_code 0 = .ok (.iload 4, 2) := by decide +kernel
theorem d_D_describe_2 : decode prog_1_method_25_code 2 = .ok (.tableswitch 54 0 2 #[26, 28, 41], 26) := by decide +kernel
theorem d_D_describe_28 : decode prog_1_method_25_code 28 = .ok (.iload_n 1, 1) := by decide +kernel
theorem d_D_describe_29 : decode prog_1_method_25_code 29 = .ok (.ireturn, 1) := by decide +kernel
theorem d_D_describe_30 : decode prog_1_method_25_code 30 = .ok (.lload_n 2, 1) := by decide +kernel
theorem d_D_describe_31 : decode prog_1_method_25_code 31 = .ok (.invokestatic 165, 3) := by decide +kernel
theorem d_D_describe_34 : decode prog_1_method_25_code 34 = .ok (.ifCond .eq 7, 3) := by decide +kernel
theorem d_D_describe_37 : decode prog_1_method_25_code 37 = .ok (.iconst 1, 1) := by decide +kernel
theorem d_D_describe_38 : decode prog_1_method_25_code 38 = .ok (.goto 4, 3) := by decide +kernel
theorem d_D_describe_41 : decode prog_1_method_25_code 41 = .ok (.iconst 0, 1) := by decide +kernel
theorem d_D_describe_42 : decode prog_1_method_25_code 42 = .ok (.ireturn, 1) := by decide +kernel
theorem d_D_describe_43 : decode prog_1_method_25_code 43 = .ok (.aload_n 0, 1) := by decide +kernel
theorem d_D_describe_44 : decode prog_1_method_25_code 44 = .ok (.getfield 12, 3) := by decide +kernel
theorem d_D_describe_47 : decode prog_1_method_25_code 47 = .ok (.iload_n 1, 1) := by decide +kernel
theorem d_D_describe_48 : decode prog_1_method_25_code 48 = .ok (.lload_n 2, 1) := by decide +kernel
theorem d_D_describe_49 : decode prog_1_method_25_code 49 = .ok (.invokevirtual 81, 3) := by decide +kernel
theorem d_D_describe_52 : decode prog_1_method_25_code 52 = .ok (.invokestatic 169, 3) := by decide +kernel
theorem d_D_describe_55 : decode prog_1_method_25_code 55 = .ok (.ireturn, 1) := by decide +kernel
theorem d_D_describe_56 : decode prog_1_method_25_code 56 = .ok (.iconst (-1), 1) := by decide +kernel
theorem d_D_describe_57 : decode prog_1_method_25_code 57 = .ok (.ireturn, 1) := by decide +kernel
theorem d_D_isWanted_0 : decode prog_1_method_37_code 0 = .ok (.lload_n 0, 1) := by decide +kernel
theorem d_D_isWanted_1 : decode prog_1_method_37_code 1 = .ok (.ldc2_w 217, 3) := by decide +kernel
theorem d_D_isWanted_4 : decode prog_1_method_37_code 4 = .ok (.land, 1) := by decide +kernel
theorem d_D_isWanted_5 : decode prog_1_method_37_code 5 = .ok (.lconst 0, 1) := by decide +kernel
theorem d_D_isWanted_6 : decode prog_1_method_37_code 6 = .ok (.lcmp, 1) := by decide +kernel
theorem d_D_isWanted_7 : decode prog_1_method_37_code 7 = .ok (.ifCond .ne 7, 3) := by decide +kernel
theorem d_D_isWanted_10 : decode prog_1_method_37_code 10 = .ok (.iconst 1, 1) := by decide +kernel
theorem d_D_isWanted_11 : decode prog_1_method_37_code 11 = .ok (.goto 4, 3) := by decide +kernel
theorem d_D_isWanted_14 : decode prog_1_method_37_code 14 = .ok (.iconst 0, 1) := by decide +kernel
theorem d_D_isWanted_15 : decode prog_1_method_37_code 15 = .ok (.ireturn, 1) := by decide +kernel
theorem d_N_setOf_0 : decode prog_3_method_8_code 0 = .ok (.lload_n 2, 1) := by decide +kernel
theorem d_N_setOf_1 : decode prog_3_method_8_code 1 = .ok (.invokestatic 35, 3) := by decide +kernel
theorem d_N_setOf_4 : decode prog_3_method_8_code 4 = .ok (.ifCond .eq 7, 3) := by decide +kernel
theorem d_N_setOf_7 : decode prog_3_method_8_code 7 = .ok (.lload_n 2, 1) := by decide +kernel
theorem d_N_setOf_8 : decode prog_3_method_8_code 8 = .ok (.goto 10, 3) := by decide +kernel
theorem d_N_setOf_11 : decode prog_3_method_8_code 11 = .ok (.aload_n 0, 1) := by decide +kernel
theorem d_N_setOf_12 : decode prog_3_method_8_code 12 = .ok (.iload_n 1, 1) := by decide +kernel
theorem d_N_setOf_13 : decode prog_3_method_8_code 13 = .ok (.invokevirtual 21, 3) := by decide +kernel
theorem d_N_setOf_16 : decode prog_3_method_8_code 16 = .ok (.lload_n 2, 1) := by decide +kernel
theorem d_N_setOf_17 : decode prog_3_method_8_code 17 = .ok (.lxor, 1) := by decide +kernel
theorem d_N_setOf_18 : decode prog_3_method_8_code 18 = .ok (.lreturn, 1) := by decide +kernel
theorem d_JL_bitCount_0 : decode prog_10_method_50_code 0 = .ok (.lload_n 0, 1) := by decide +kernel
theorem d_JL_bitCount_1 : decode prog_10_method_50_code 1 = .ok (.lload_n 0, 1) := by decide +kernel
theorem d_JL_bitCount_2 : decode prog_10_method_50_code 2 = .ok (.iconst 1, 1) := by decide +kernel
theorem d_JL_bitCount_3 : decode prog_10_method_50_code 3 = .ok (.lushr, 1) := by decide +kernel
theorem d_JL_bitCount_4 : decode prog_10_method_50_code 4 = .ok (.ldc2_w 314, 3) := by decide +kernel
theorem d_JL_bitCount_7 : decode prog_10_method_50_code 7 = .ok (.land, 1) := by decide +kernel
theorem d_JL_bitCount_8 : decode prog_10_method_50_code 8 = .ok (.lsub, 1) := by decide +kernel
theorem d_JL_bitCount_9 : decode prog_10_method_50_code 9 = .ok (.lstore_n 0, 1) := by decide +kernel
theorem d_JL_bitCount_10 : decode prog_10_method_50_code 10 = .ok (.lload_n 0, 1) := by decide +kernel
theorem d_JL_bitCount_11 : decode prog_10_method_50_code 11 = .ok (.ldc2_w 316, 3) := by decide +kernel
theorem d_JL_bitCount_14 : decode prog_10_method_50_code 14 = .ok (.land, 1) := by decide +kernel
theorem d_JL_bitCount_15 : decode prog_10_method_50_code 15 = .ok (.lload_n 0, 1) := by decide +kernel
theorem d_JL_bitCount_16 : decode prog_10_method_50_code 16 = .ok (.iconst 2, 1) := by decide +kernel
theorem d_JL_bitCount_17 : decode prog_10_method_50_code 17 = .ok (.lushr, 1) := by decide +kernel
theorem d_JL_bitCount_18 : decode prog_10_method_50_code 18 = .ok (.ldc2_w 316, 3) := by decide +kernel
theorem d_JL_bitCount_21 : decode prog_10_method_50_code 21 = .ok (.land, 1) := by decide +kernel
theorem d_JL_bitCount_22 : decode prog_10_method_50_code 22 = .ok (.ladd, 1) := by decide +kernel
theorem d_JL_bitCount_23 : decode prog_10_method_50_code 23 = .ok (.lstore_n 0, 1) := by decide +kernel
theorem d_JL_bitCount_24 : decode prog_10_method_50_code 24 = .ok (.lload_n 0, 1) := by decide +kernel
theorem d_JL_bitCount_25 : decode prog_10_method_50_code 25 = .ok (.lload_n 0, 1) := by decide +kernel
theorem d_JL_bitCount_26 : decode prog_10_method_50_code 26 = .ok (.iconst 4, 1) := by decide +kernel
theorem d_JL_bitCount_27 : decode prog_10_method_50_code 27 = .ok (.lushr, 1) := by decide +kernel
theorem d_JL_bitCount_28 : decode prog_10_method_50_code 28 = .ok (.ladd, 1) := by decide +kernel
theorem d_JL_bitCount_29 : decode prog_10_method_50_code 29 = .ok (.ldc2_w 318, 3) := by decide +kernel
theorem d_JL_bitCount_32 : decode prog_10_method_50_code 32 = .ok (.land, 1) := by decide +kernel
theorem d_JL_bitCount_33 : decode prog_10_method_50_code 33 = .ok (.lstore_n 0, 1) := by decide +kernel
theorem d_JL_bitCount_34 : decode prog_10_method_50_code 34 = .ok (.lload_n 0, 1) := by decide +kernel
theorem d_JL_bitCount_35 : decode prog_10_method_50_code 35 = .ok (.lload_n 0, 1) := by decide +kernel
theorem d_JL_bitCount_36 : decode prog_10_method_50_code 36 = .ok (.bipush 8, 2) := by decide +kernel
theorem d_JL_bitCount_38 : decode prog_10_method_50_code 38 = .ok (.lushr, 1) := by decide +kernel
theorem d_JL_bitCount_39 : decode prog_10_method_50_code 39 = .ok (.ladd, 1) := by decide +kernel
theorem d_JL_bitCount_40 : decode prog_10_method_50_code 40 = .ok (.lstore_n 0, 1) := by decide +kernel
theorem d_JL_bitCount_41 : decode prog_10_method_50_code 41 = .ok (.lload_n 0, 1) := by decide +kernel
theorem d_JL_bitCount_42 : decode prog_10_method_50_code 42 = .ok (.lload_n 0, 1) := by decide +kernel
theorem d_JL_bitCount_43 : decode prog_10_method_50_code 43 = .ok (.bipush 16, 2) := by decide +kernel
theorem d_JL_bitCount_45 : decode prog_10_method_50_code 45 = .ok (.lushr, 1) := by decide +kernel
theorem d_JL_bitCount_46 : decode prog_10_method_50_code 46 = .ok (.ladd, 1) := by decide +kernel
theorem d_JL_bitCount_47 : decode prog_10_method_50_code 47 = .ok (.lstore_n 0, 1) := by decide +kernel
theorem d_JL_bitCount_48 : decode prog_10_method_50_code 48 = .ok (.lload_n 0, 1) := by decide +kernel
theorem d_JL_bitCount_49 : decode prog_10_method_50_code 49 = .ok (.lload_n 0, 1) := by decide +kernel
theorem d_JL_bitCount_50 : decode prog_10_method_50_code 50 = .ok (.bipush 32, 2) := by decide +kernel
theorem d_JL_bitCount_52 : decode prog_10_method_50_code 52 = .ok (.lushr, 1) := by decide +kernel
theorem d_JL_bitCount_53 : decode prog_10_method_50_code 53 = .ok (.ladd, 1) := by decide +kernel
theorem d_JL_bitCount_54 : decode prog_10_method_50_code 54 = .ok (.lstore_n 0, 1) := by decide +kernel
theorem d_JL_bitCount_55 : decode prog_10_method_50_code 55 = .ok (.lload_n 0, 1) := by decide +kernel
theorem d_JL_bitCount_56 : decode prog_10_method_50_code 56 = .ok (.l2i, 1) := by decide +kernel
theorem d_JL_bitCount_57 : decode prog_10_method_50_code 57 = .ok (.bipush 127, 2) := by decide +kernel
theorem d_JL_bitCount_59 : decode prog_10_method_50_code 59 = .ok (.iand, 1) := by decide +kernel
theorem d_JL_bitCount_60 : decode prog_10_method_50_code 60 = .ok (.ireturn, 1) := by decide +kernel
theorem d_D_set_0 : decode prog_1_method_7_code 0 = .ok (.aload_n 0, 1) := by decide +kernel
theorem d_D_set_1 : decode prog_1_method_7_code 1 = .ok (.getfield 19, 3) := by decide +kernel
theorem d_D_set_4 : decode prog_1_method_7_code 4 = .ok (.iload_n 1, 1) := by decide +kernel
theorem d_D_set_5 : decode prog_1_method_7_code 5 = .ok (.invokevirtual 67, 3) := by decide +kernel
theorem d_D_set_8 : decode prog_1_method_7_code 8 = .ok (.ifCond .ne 5, 3) := by decide +kernel
theorem d_D_set_11 : decode prog_1_method_7_code 11 = .ok (.lconst 0, 1) := by decide +kernel
theorem d_D_set_12 : decode prog_1_method_7_code 12 = .ok (.lreturn, 1) := by decide +kernel
theorem d_D_set_13 : decode prog_1_method_7_code 13 = .ok (.aload_n 0, 1) := by decide +kernel
theorem d_D_set_14 : decode prog_1_method_7_code 14 = .ok (.getfield 12, 3) := by decide +kernel
theorem d_D_set_17 : decode prog_1_method_7_code 17 = .ok (.aload_n 0, 1) := by decide +kernel
theorem d_D_set_18 : decode prog_1_method_7_code 18 = .ok (.getfield 19, 3) := by decide +kernel
theorem d_D_set_21 : decode prog_1_method_7_code 21 = .ok (.iload_n 1, 1) := by decide +kernel
theorem d_D_set_22 : decode prog_1_method_7_code 22 = .ok (.invokevirtual 68, 3) := by decide +kernel
theorem d_D_set_25 : decode prog_1_method_7_code 25 = .ok (.aload_n 0, 1) := by decide +kernel
theorem d_D_set_26 : decode prog_1_method_7_code 26 = .ok (.getfield 19, 3) := by decide +kernel
theorem d_D_set_29 : decode prog_1_method_7_code 29 = .ok (.iload_n 1, 1) := by decide +kernel
theorem d_D_set_30 : decode prog_1_method_7_code 30 = .ok (.invokevirtual 71, 3) := by decide +kernel
theorem d_D_set_33 : decode prog_1_method_7_code 33 = .ok (.invokevirtual 81, 3) := by decide +kernel
theorem d_D_set_36 : decode prog_1_method_7_code 36 = .ok (.lreturn, 1) := by decide +kernel
theorem d_D_needs_0 : decode prog_1_method_8_code 0 = .ok (.aload_n 0, 1) := by decide +kernel
theorem d_D_needs_1 : decode prog_1_method_8_code 1 = .ok (.getfield 12, 3) := by decide +kernel
theorem d_D_needs_4 : decode prog_1_method_8_code 4 = .ok (.iload_n 1, 1) := by decide +kernel
theorem d_D_needs_5 : decode prog_1_method_8_code 5 = .ok (.iload_n 2, 1) := by decide +kernel
theorem d_D_needs_6 : decode prog_1_method_8_code 6 = .ok (.invokevirtual 85, 3) := by decide +kernel
theorem d_D_needs_9 : decode prog_1_method_8_code 9 = .ok (.ifCond .eq 19, 3) := by decide +kernel
theorem d_D_needs_12 : decode prog_1_method_8_code 12 = .ok (.aload_n 0, 1) := by decide +kernel
theorem d_D_needs_13 : decode prog_1_method_8_code 13 = .ok (.getfield 12, 3) := by decide +kernel
theorem d_D_needs_16 : decode prog_1_method_8_code 16 = .ok (.iload_n 3, 1) := by decide +kernel
theorem d_D_needs_17 : decode prog_1_method_8_code 17 = .ok (.invokevirtual 56, 3) := by decide +kernel
theorem d_D_needs_20 : decode prog_1_method_8_code 20 = .ok (.ifCond .eq 8, 3) := by decide +kernel
theorem d_D_needs_23 : decode prog_1_method_8_code 23 = .ok (.iload_n 3, 1) := by decide +kernel
theorem d_D_needs_24 : decode prog_1_method_8_code 24 = .ok (.iload_n 1, 1) := by decide +kernel
theorem d_D_needs_25 : decode prog_1_method_8_code 25 = .ok (.if_icmp .ne 5, 3) := by decide +kernel
theorem d_D_needs_28 : decode prog_1_method_8_code 28 = .ok (.iconst 0, 1) := by decide +kernel
theorem d_D_needs_29 : decode prog_1_method_8_code 29 = .ok (.ireturn, 1) := by decide +kernel
theorem d_D_needs_30 : decode prog_1_method_8_code 30 = .ok (.iload 6, 2) := by decide +kernel
theorem d_D_needs_32 : decode prog_1_method_8_code 32 = .ok (.ifCond .lt 10, 3) := by decide +kernel
theorem d_D_needs_35 : decode prog_1_method_8_code 35 = .ok (.iload 6, 2) := by decide +kernel
theorem d_D_needs_37 : decode prog_1_method_8_code 37 = .ok (.bipush 8, 2) := by decide +kernel
theorem d_D_needs_39 : decode prog_1_method_8_code 39 = .ok (.if_icmp .lt 5, 3) := by decide +kernel
theorem d_D_needs_42 : decode prog_1_method_8_code 42 = .ok (.iconst 0, 1) := by decide +kernel
theorem d_D_needs_43 : decode prog_1_method_8_code 43 = .ok (.ireturn, 1) := by decide +kernel
theorem d_D_needs_44 : decode prog_1_method_8_code 44 = .ok (.aload_n 0, 1) := by decide +kernel
theorem d_D_needs_45 : decode prog_1_method_8_code 45 = .ok (.getfield 26, 3) := by decide +kernel
theorem d_D_needs_48 : decode prog_1_method_8_code 48 = .ok (.iload_n 1, 1) := by decide +kernel
theorem d_D_needs_49 : decode prog_1_method_8_code 49 = .ok (.iload_n 2, 1) := by decide +kernel
theorem d_D_needs_50 : decode prog_1_method_8_code 50 = .ok (.iload_n 3, 1) := by decide +kernel
theorem d_D_needs_51 : decode prog_1_method_8_code 51 = .ok (.aload_n 0, 1) := by decide +kernel
theorem d_D_needs_52 : decode prog_1_method_8_code 52 = .ok (.getfield 12, 3) := by decide +kernel
theorem d_D_needs_55 : decode prog_1_method_8_code 55 = .ok (.iload_n 3, 1) := by decide +kernel
theorem d_D_needs_56 : decode prog_1_method_8_code 56 = .ok (.lload 4, 2) := by decide +kernel
theorem d_D_needs_58 : decode prog_1_method_8_code 58 = .ok (.iconst 1, 1) := by decide +kernel
theorem d_D_needs_59 : decode prog_1_method_8_code 59 = .ok (.invokevirtual 60, 3) := by decide +kernel
theorem d_D_needs_62 : decode prog_1_method_8_code 62 = .ok (.iload 6, 2) := by decide +kernel
theorem d_D_needs_64 : decode prog_1_method_8_code 64 = .ok (.invokevirtual 89, 3) := by decide +kernel
theorem d_D_needs_67 : decode prog_1_method_8_code 67 = .ok (.ireturn, 1) := by decide +kernel
theorem d_N_hasVersion_0 : decode prog_3_method_5_code 0 = .ok (.aload_n 0, 1) := by decide +kernel
theorem d_N_hasVersion_1 : decode prog_3_method_5_code 1 = .ok (.iload_n 1, 1) := by decide +kernel
theorem d_N_hasVersion_2 : decode prog_3_method_5_code 2 = .ok (.invokevirtual 21, 3) := by decide +kernel
theorem d_N_hasVersion_5 : decode prog_3_method_5_code 5 = .ok (.iload_n 2, 1) := by decide +kernel
theorem d_N_hasVersion_6 : decode prog_3_method_5_code 6 = .ok (.invokestatic 25, 3) := by decide +kernel
theorem d_N_hasVersion_9 : decode prog_3_method_5_code 9 = .ok (.ireturn, 1) := by decide +kernel
theorem d_D_hasVersion_0 : decode prog_1_method_38_code 0 = .ok (.iload_n 2, 1) := by decide +kernel
theorem d_D_hasVersion_1 : decode prog_1_method_38_code 1 = .ok (.ifCond .lt 23, 3) := by decide +kernel
theorem d_D_hasVersion_4 : decode prog_1_method_38_code 4 = .ok (.iload_n 2, 1) := by decide +kernel
theorem d_D_hasVersion_5 : decode prog_1_method_38_code 5 = .ok (.bipush 48, 2) := by decide +kernel
theorem d_D_hasVersion_7 : decode prog_1_method_38_code 7 = .ok (.if_icmp .ge 17, 3) := by decide +kernel
theorem d_D_hasVersion_10 : decode prog_1_method_38_code 10 = .ok (.lload_n 0, 1) := by decide +kernel
theorem d_D_hasVersion_11 : decode prog_1_method_38_code 11 = .ok (.iload_n 2, 1) := by decide +kernel
theorem d_D_hasVersion_12 : decode prog_1_method_38_code 12 = .ok (.lushr, 1) := by decide +kernel
theorem d_D_hasVersion_13 : decode prog_1_method_38_code 13 = .ok (.lconst 1, 1) := by decide +kernel
theorem d_D_hasVersion_14 : decode prog_1_method_38_code 14 = .ok (.land, 1) := by decide +kernel
theorem d_D_hasVersion_15 : decode prog_1_method_38_code 15 = .ok (.lconst 0, 1) := by decide +kernel
theorem d_D_hasVersion_16 : decode prog_1_method_38_code 16 = .ok (.lcmp, 1) := by decide +kernel
theorem d_D_hasVersion_17 : decode prog_1_method_38_code 17 = .ok (.ifCond .eq 7, 3) := by decide +kernel
theorem d_D_hasVersion_20 : decode prog_1_method_38_code 20 = .ok (.iconst 1, 1) := by decide +kernel
theorem d_D_hasVersion_21 : decode prog_1_method_38_code 21 = .ok (.goto 4, 3) := by decide +kernel
theorem d_D_hasVersion_24 : decode prog_1_method_38_code 24 = .ok (.iconst 0, 1) := by decide +kernel
theorem d_D_hasVersion_25 : decode prog_1_method_38_code 25 = .ok (.ireturn, 1) := by decide +kernel
theorem d_R_add_0 : decode prog_4_method_3_code 0 = .ok (.aload_n 0, 1) := by decide +kernel
theorem d_R_add_1 : decode prog_4_method_3_code 1 = .ok (.getfield 28, 3) := by decide +kernel
theorem d_R_add_4 : decode prog_4_method_3_code 4 = .ok (.sipush 400, 3) := by decide +kernel
theorem d_R_add_7 : decode prog_4_method_3_code 7 = .ok (.if_icmp .lt 5, 3) := by decide +kernel
theorem d_R_add_10 : decode prog_4_method_3_code 10 = .ok (.iconst 0, 1) := by decide +kernel
theorem d_R_add_11 : decode prog_4_method_3_code 11 = .ok (.ireturn, 1) := by decide +kernel
theorem d_R_add_12 : decode prog_4_method_3_code 12 = .ok (.aload_n 0, 1) := by decide +kernel
theorem d_R_add_13 : decode prog_4_method_3_code 13 = .ok (.getfield 9, 3) := by decide +kernel
theorem d_R_add_16 : decode prog_4_method_3_code 16 = .ok (.aload_n 0, 1) := by decide +kernel
theorem d_R_add_17 : decode prog_4_method_3_code 17 = .ok (.getfield 28, 3) := by decide +kernel
theorem d_R_add_20 : decode prog_4_method_3_code 20 = .ok (.iload_n 1, 1) := by decide +kernel
theorem d_R_add_21 : decode prog_4_method_3_code 21 = .ok (.iastore, 1) := by decide +kernel
theorem d_R_add_22 : decode prog_4_method_3_code 22 = .ok (.aload_n 0, 1) := by decide +kernel
theorem d_R_add_23 : decode prog_4_method_3_code 23 = .ok (.getfield 15, 3) := by decide +kernel
theorem d_R_add_26 : decode prog_4_method_3_code 26 = .ok (.aload_n 0, 1) := by decide +kernel
theorem d_R_add_27 : decode prog_4_method_3_code 27 = .ok (.getfield 28, 3) := by decide +kernel
theorem d_R_add_30 : decode prog_4_method_3_code 30 = .ok (.iload_n 2, 1) := by decide +kernel
theorem d_R_add_31 : decode prog_4_method_3_code 31 = .ok (.iastore, 1) := by decide +kernel
theorem d_R_add_32 : decode prog_4_method_3_code 32 = .ok (.aload_n 0, 1) := by decide +kernel
theorem d_R_add_33 : decode prog_4_method_3_code 33 = .ok (.getfield 18, 3) := by decide +kernel
theorem d_R_add_36 : decode prog_4_method_3_code 36 = .ok (.aload_n 0, 1) := by decide +kernel
theorem d_R_add_37 : decode prog_4_method_3_code 37 = .ok (.getfield 28, 3) := by decide +kernel
theorem d_R_add_40 : decode prog_4_method_3_code 40 = .ok (.iload_n 3, 1) := by decide +kernel
theorem d_R_add_41 : decode prog_4_method_3_code 41 = .ok (.iastore, 1) := by decide +kernel
theorem d_R_add_42 : decode prog_4_method_3_code 42 = .ok (.aload_n 0, 1) := by decide +kernel
theorem d_R_add_43 : decode prog_4_method_3_code 43 = .ok (.getfield 21, 3) := by decide +kernel
theorem d_R_add_46 : decode prog_4_method_3_code 46 = .ok (.aload_n 0, 1) := by decide +kernel
theorem d_R_add_47 : decode prog_4_method_3_code 47 = .ok (.getfield 28, 3) := by decide +kernel
theorem d_R_add_50 : decode prog_4_method_3_code 50 = .ok (.lload 4, 2) := by decide +kernel
theorem d_R_add_52 : decode prog_4_method_3_code 52 = .ok (.lastore, 1) := by decide +kernel
theorem d_R_add_53 : decode prog_4_method_3_code 53 = .ok (.aload_n 0, 1) := by decide +kernel
theorem d_R_add_54 : decode prog_4_method_3_code 54 = .ok (.getfield 25, 3) := by decide +kernel
theorem d_R_add_57 : decode prog_4_method_3_code 57 = .ok (.aload_n 0, 1) := by decide +kernel
theorem d_R_add_58 : decode prog_4_method_3_code 58 = .ok (.getfield 28, 3) := by decide +kernel
theorem d_R_add_61 : decode prog_4_method_3_code 61 = .ok (.iload 6, 2) := by decide +kernel
theorem d_R_add_63 : decode prog_4_method_3_code 63 = .ok (.iastore, 1) := by decide +kernel
theorem d_R_add_64 : decode prog_4_method_3_code 64 = .ok (.aload_n 0, 1) := by decide +kernel
theorem d_R_add_65 : decode prog_4_method_3_code 65 = .ok (.dup, 1) := by decide +kernel
theorem d_R_add_66 : decode prog_4_method_3_code 66 = .ok (.getfield 28, 3) := by decide +kernel
theorem d_R_add_69 : decode prog_4_method_3_code 69 = .ok (.iconst 1, 1) := by decide +kernel
theorem d_R_add_70 : decode prog_4_method_3_code 70 = .ok (.iadd, 1) := by decide +kernel
theorem d_R_add_71 : decode prog_4_method_3_code 71 = .ok (.putfield 28, 3) := by decide +kernel
theorem d_R_add_74 : decode prog_4_method_3_code 74 = .ok (.iconst 1, 1) := by decide +kernel
theorem d_R_add_75 : decode prog_4_method_3_code 75 = .ok (.ireturn, 1) := by decide +kernel
theorem d_D_derive_0 : decode prog_1_method_9_code 0 = .ok (.aload_n 0, 1) := by decide +kernel
theorem d_D_derive_1 : decode prog_1_method_9_code 1 = .ok (.getfield 12, 3) := by decide +kernel
theorem d_D_derive_4 : decode prog_1_method_9_code 4 = .ok (.iload_n 1, 1) := by decide +kernel
theorem d_D_derive_5 : decode prog_1_method_9_code 5 = .ok (.iload_n 2, 1) := by decide +kernel
theorem d_D_derive_6 : decode prog_1_method_9_code 6 = .ok (.invokevirtual 85, 3) := by decide +kernel
theorem d_D_derive_9 : decode prog_1_method_9_code 9 = .ok (.ifCond .ne 5, 3) := by decide +kernel
theorem d_D_derive_12 : decode prog_1_method_9_code 12 = .ok (.iconst (-1), 1) := by decide +kernel
theorem d_D_derive_13 : decode prog_1_method_9_code 13 = .ok (.ireturn, 1) := by decide +kernel
theorem d_D_derive_14 : decode prog_1_method_9_code 14 = .ok (.aload_n 0, 1) := by decide +kernel
theorem d_D_derive_15 : decode prog_1_method_9_code 15 = .ok (.getfield 33, 3) := by decide +kernel
theorem d_D_derive_18 : decode prog_1_method_9_code 18 = .ok (.invokevirtual 92, 3) := by decide +kernel
theorem d_D_derive_21 : decode prog_1_method_9_code 21 = .ok (.istore_n 3, 1) := by decide +kernel
theorem d_D_derive_22 : decode prog_1_method_9_code 22 = .ok (.iconst 0, 1) := by decide +kernel
theorem d_D_derive_23 : decode prog_1_method_9_code 23 = .ok (.istore 4, 2) := by decide +kernel
theorem d_D_derive_25 : decode prog_1_method_9_code 25 = .ok (.iload 4, 2) := by decide +kernel
theorem d_D_derive_27 : decode prog_1_method_9_code 27 = .ok (.aload_n 0, 1) := by decide +kernel
theorem d_D_derive_28 : decode prog_1_method_9_code 28 = .ok (.getfield 26, 3) := by decide +kernel
theorem d_D_derive_31 : decode prog_1_method_9_code 31 = .ok (.invokevirtual 96, 3) := by decide +kernel
theorem d_D_derive_34 : decode prog_1_method_9_code 34 = .ok (.if_icmp .ge 51, 3) := by decide +kernel
theorem d_D_derive_37 : decode prog_1_method_9_code 37 = .ok (.aload_n 0, 1) := by decide +kernel
theorem d_D_derive_38 : decode prog_1_method_9_code 38 = .ok (.getfield 26, 3) := by decide +kernel
theorem d_D_derive_41 : decode prog_1_method_9_code 41 = .ok (.iload 4, 2) := by decide +kernel
theorem d_D_derive_43 : decode prog_1_method_9_code 43 = .ok (.iload_n 1, 1) := by decide +kernel
theorem d_D_derive_44 : decode prog_1_method_9_code 44 = .ok (.iload_n 2, 1) := by decide +kernel
theorem d_D_derive_45 : decode prog_1_method_9_code 45 = .ok (.invokevirtual 97, 3) := by decide +kernel
theorem d_D_derive_48 : decode prog_1_method_9_code 48 = .ok (.ifCond .eq 31, 3) := by decide +kernel
theorem d_D_derive_51 : decode prog_1_method_9_code 51 = .ok (.aload_n 0, 1) := by decide +kernel
theorem d_D_derive_52 : decode prog_1_method_9_code 52 = .ok (.iload 4, 2) := by decide +kernel
theorem d_D_derive_54 : decode prog_1_method_9_code 54 = .ok (.invokevirtual 101, 3) := by decide +kernel
theorem d_D_derive_57 : decode prog_1_method_9_code 57 = .ok (.ifCond .ne 22, 3) := by decide +kernel
theorem d_D_derive_60 : decode prog_1_method_9_code 60 = .ok (.aload_n 0, 1) := by decide +kernel
theorem d_D_derive_61 : decode prog_1_method_9_code 61 = .ok (.iload 4, 2) := by decide +kernel
theorem d_D_derive_63 : decode prog_1_method_9_code 63 = .ok (.invokevirtual 104, 3) := by decide +kernel
theorem d_D_derive_66 : decode prog_1_method_9_code 66 = .ok (.ifCond .ne 13, 3) := by decide +kernel
theorem d_D_derive_69 : decode prog_1_method_9_code 69 = .ok (.aload_n 0, 1) := by decide +kernel
theorem d_D_derive_70 : decode prog_1_method_9_code 70 = .ok (.getfield 33, 3) := by decide +kernel
theorem d_D_derive_73 : decode prog_1_method_9_code 73 = .ok (.iload_n 3, 1) := by decide +kernel
theorem d_D_derive_74 : decode prog_1_method_9_code 74 = .ok (.invokevirtual 107, 3) := by decide +kernel
theorem d_D_derive_77 : decode prog_1_method_9_code 77 = .ok (.iconst (-1), 1) := by decide +kernel
theorem d_D_derive_78 : decode prog_1_method_9_code 78 = .ok (.ireturn, 1) := by decide +kernel
theorem d_D_derive_79 : decode prog_1_method_9_code 79 = .ok (.iinc 4 1, 3) := by decide +kernel
theorem d_D_derive_82 : decode prog_1_method_9_code 82 = .ok (.goto (-57), 3) := by decide +kernel
theorem d_D_derive_85 : decode prog_1_method_9_code 85 = .ok (.aload_n 0, 1) := by decide +kernel
theorem d_D_derive_86 : decode prog_1_method_9_code 86 = .ok (.getfield 33, 3) := by decide +kernel
theorem d_D_derive_89 : decode prog_1_method_9_code 89 = .ok (.invokevirtual 92, 3) := by decide +kernel
theorem d_D_derive_92 : decode prog_1_method_9_code 92 = .ok (.iload_n 3, 1) := by decide +kernel
theorem d_D_derive_93 : decode prog_1_method_9_code 93 = .ok (.isub, 1) := by decide +kernel
theorem d_D_derive_94 : decode prog_1_method_9_code 94 = .ok (.ireturn, 1) := by decide +kernel
theorem d_C_size_0 : decode prog_2_method_2_code 0 = .ok (.aload_n 0, 1) := by decide +kernel
theorem d_C_size_1 : decode prog_2_method_2_code 1 = .ok (.getfield 25, 3) := by decide +kernel
theorem d_C_size_4 : decode prog_2_method_2_code 4 = .ok (.ireturn, 1) := by decide +kernel
theorem d_R_size_0 : decode prog_4_method_2_code 0 = .ok (.aload_n 0, 1) := by decide +kernel
theorem d_R_size_1 : decode prog_4_method_2_code 1 = .ok (.getfield 28, 3) := by decide +kernel
theorem d_R_size_4 : decode prog_4_method_2_code 4 = .ok (.ireturn, 1) := by decide +kernel
theorem d_R_isOf_0 : decode prog_4_method_5_code 0 = .ok (.aload_n 0, 1) := by decide +kernel
theorem d_R_isOf_1 : decode prog_4_method_5_code 1 = .ok (.iload_n 1, 1) := by decide +kernel
theorem d_R_isOf_2 : decode prog_4_method_5_code 2 = .ok (.invokevirtual 32, 3) := by decide +kernel
theorem d_R_isOf_5 : decode prog_4_method_5_code 5 = .ok (.ifCond .eq 27, 3) := by decide +kernel
theorem d_R_isOf_8 : decode prog_4_method_5_code 8 = .ok (.aload_n 0, 1) := by decide +kernel
theorem d_R_isOf_9 : decode prog_4_method_5_code 9 = .ok (.getfield 9, 3) := by decide +kernel
theorem d_R_isOf_12 : decode prog_4_method_5_code 12 = .ok (.iload_n 1, 1) := by decide +kernel
theorem d_R_isOf_13 : decode prog_4_method_5_code 13 = .ok (.iaload, 1) := by decide +kernel
theorem d_R_isOf_14 : decode prog_4_method_5_code 14 = .ok (.iload_n 2, 1) := by decide +kernel
theorem d_R_isOf_15 : decode prog_4_method_5_code 15 = .ok (.if_icmp .ne 17, 3) := by decide +kernel
theorem d_R_isOf_18 : decode prog_4_method_5_code 18 = .ok (.aload_n 0, 1) := by decide +kernel
theorem d_R_isOf_19 : decode prog_4_method_5_code 19 = .ok (.getfield 15, 3) := by decide +kernel
theorem d_R_isOf_22 : decode prog_4_method_5_code 22 = .ok (.iload_n 1, 1) := by decide +kernel
theorem d_R_isOf_23 : decode prog_4_method_5_code 23 = .ok (.iaload, 1) := by decide +kernel
theorem d_R_isOf_24 : decode prog_4_method_5_code 24 = .ok (.iload_n 3, 1) := by decide +kernel
theorem d_R_isOf_25 : decode prog_4_method_5_code 25 = .ok (.if_icmp .ne 7, 3) := by decide +kernel
theorem d_R_isOf_28 : decode prog_4_method_5_code 28 = .ok (.iconst 1, 1) := by decide +kernel
theorem d_R_isOf_29 : decode prog_4_method_5_code 29 = .ok (.goto 4, 3) := by decide +kernel
theorem d_R_isOf_32 : decode prog_4_method_5_code 32 = .ok (.iconst 0, 1) := by decide +kernel
theorem d_R_isOf_33 : decode prog_4_method_5_code 33 = .ok (.ireturn, 1) := by decide +kernel
theorem d_R_has_0 : decode prog_4_method_4_code 0 = .ok (.iload_n 1, 1) := by decide +kernel
theorem d_R_has_1 : decode prog_4_method_4_code 1 = .ok (.ifCond .lt 15, 3) := by decide +kernel
theorem d_R_has_4 : decode prog_4_method_4_code 4 = .ok (.iload_n 1, 1) := by decide +kernel
theorem d_R_has_5 : decode prog_4_method_4_code 5 = .ok (.aload_n 0, 1) := by decide +kernel
theorem d_R_has_6 : decode prog_4_method_4_code 6 = .ok (.getfield 28, 3) := by decide +kernel
theorem d_R_has_9 : decode prog_4_method_4_code 9 = .ok (.if_icmp .ge 7, 3) := by decide +kernel
theorem d_R_has_12 : decode prog_4_method_4_code 12 = .ok (.iconst 1, 1) := by decide +kernel
theorem d_R_has_13 : decode prog_4_method_4_code 13 = .ok (.goto 4, 3) := by decide +kernel
theorem d_R_has_16 : decode prog_4_method_4_code 16 = .ok (.iconst 0, 1) := by decide +kernel
theorem d_R_has_17 : decode prog_4_method_4_code 17 = .ok (.ireturn, 1) := by decide +kernel
theorem d_D_isDerived_0 : decode prog_1_method_26_code 0 = .ok (.aload_n 0, 1) := by decide +kernel
theorem d_D_isDerived_1 : decode prog_1_method_26_code 1 = .ok (.getfield 26, 3) := by decide +kernel
theorem d_D_isDerived_4 : decode prog_1_method_26_code 4 = .ok (.iload_n 1, 1) := by decide +kernel
theorem d_D_isDerived_5 : decode prog_1_method_26_code 5 = .ok (.invokevirtual 175, 3) := by decide +kernel
theorem d_D_isDerived_8 : decode prog_1_method_26_code 8 = .ok (.istore_n 2, 1) := by decide +kernel
theorem d_D_isDerived_9 : decode prog_1_method_26_code 9 = .ok (.iconst 0, 1) := by decide +kernel
theorem d_D_isDerived_10 : decode prog_1_method_26_code 10 = .ok (.istore_n 3, 1) := by decide +kernel
theorem d_D_isDerived_11 : decode prog_1_method_26_code 11 = .ok (.iload_n 3, 1) := by decide +kernel
theorem d_D_isDerived_12 : decode prog_1_method_26_code 12 = .ok (.aload_n 0, 1) := by decide +kernel
theorem d_D_isDerived_13 : decode prog_1_method_26_code 13 = .ok (.getfield 33, 3) := by decide +kernel
theorem d_D_isDerived_16 : decode prog_1_method_26_code 16 = .ok (.invokevirtual 92, 3) := by decide +kernel
theorem d_D_isDerived_19 : decode prog_1_method_26_code 19 = .ok (.if_icmp .ge 45, 3) := by decide +kernel
theorem d_D_isDerived_22 : decode prog_1_method_26_code 22 = .ok (.aload_n 0, 1) := by decide +kernel
theorem d_D_isDerived_23 : decode prog_1_method_26_code 23 = .ok (.getfield 26, 3) := by decide +kernel
theorem d_D_isDerived_26 : decode prog_1_method_26_code 26 = .ok (.aload_n 0, 1) := by decide +kernel
theorem d_D_isDerived_27 : decode prog_1_method_26_code 27 = .ok (.getfield 33, 3) := by decide +kernel
theorem d_D_isDerived_30 : decode prog_1_method_26_code 30 = .ok (.iload_n 3, 1) := by decide +kernel
theorem d_D_isDerived_31 : decode prog_1_method_26_code 31 = .ok (.invokevirtual 178, 3) := by decide +kernel
theorem d_D_isDerived_34 : decode prog_1_method_26_code 34 = .ok (.iload_n 1, 1) := by decide +kernel
theorem d_D_isDerived_35 : decode prog_1_method_26_code 35 = .ok (.invokevirtual 181, 3) := by decide +kernel
theorem d_D_isDerived_38 : decode prog_1_method_26_code 38 = .ok (.ifCond .eq 20, 3) := by decide +kernel
theorem d_D_isDerived_41 : decode prog_1_method_26_code 41 = .ok (.aload_n 0, 1) := by decide +kernel
theorem d_D_isDerived_42 : decode prog_1_method_26_code 42 = .ok (.getfield 33, 3) := by decide +kernel
theorem d_D_isDerived_45 : decode prog_1_method_26_code 45 = .ok (.iload_n 3, 1) := by decide +kernel
theorem d_D_isDerived_46 : decode prog_1_method_26_code 46 = .ok (.invokevirtual 184, 3) := by decide +kernel
theorem d_D_isDerived_49 : decode prog_1_method_26_code 49 = .ok (.iload_n 2, 1) := by decide +kernel
theorem d_D_isDerived_50 : decode prog_1_method_26_code 50 = .ok (.invokestatic 187, 3) := by decide +kernel
theorem d_D_isDerived_53 : decode prog_1_method_26_code 53 = .ok (.ifCond .eq 5, 3) := by decide +kernel
theorem d_D_isDerived_56 : decode prog_1_method_26_code 56 = .ok (.iconst 1, 1) := by decide +kernel
theorem d_D_isDerived_57 : decode prog_1_method_26_code 57 = .ok (.ireturn, 1) := by decide +kernel
theorem d_D_isDerived_58 : decode prog_1_method_26_code 58 = .ok (.iinc 3 1, 3) := by decide +kernel
theorem d_D_isDerived_61 : decode prog_1_method_26_code 61 = .ok (.goto (-50), 3) := by decide +kernel
theorem d_D_isDerived_64 : decode prog_1_method_26_code 64 = .ok (.iconst 0, 1) := by decide +kernel
theorem d_D_isDerived_65 : decode prog_1_method_26_code 65 = .ok (.ireturn, 1) := by decide +kernel
theorem d_R_versionOf_0 : decode prog_4_method_9_code 0 = .ok (.aload_n 0, 1) := by decide +kernel
theorem d_R_versionOf_1 : decode prog_4_method_9_code 1 = .ok (.iload_n 1, 1) := by decide +kernel
theorem d_R_versionOf_2 : decode prog_4_method_9_code 2 = .ok (.invokevirtual 32, 3) := by decide +kernel
theorem d_R_versionOf_5 : decode prog_4_method_9_code 5 = .ok (.ifCond .eq 12, 3) := by decide +kernel
theorem d_R_versionOf_8 : decode prog_4_method_9_code 8 = .ok (.aload_n 0, 1) := by decide +kernel
theorem d_R_versionOf_9 : decode prog_4_method_9_code 9 = .ok (.getfield 15, 3) := by decide +kernel
theorem d_R_versionOf_12 : decode prog_4_method_9_code 12 = .ok (.iload_n 1, 1) := by decide +kernel
theorem d_R_versionOf_13 : decode prog_4_method_9_code 13 = .ok (.iaload, 1) := by decide +kernel
theorem d_R_versionOf_14 : decode prog_4_method_9_code 14 = .ok (.goto 4, 3) := by decide +kernel
theorem d_R_versionOf_17 : decode prog_4_method_9_code 17 = .ok (.iconst (-1), 1) := by decide +kernel
theorem d_R_versionOf_18 : decode prog_4_method_9_code 18 = .ok (.ireturn, 1) := by decide +kernel
theorem d_C_sourceOf_0 : decode prog_2_method_12_code 0 = .ok (.aload_n 0, 1) := by decide +kernel
theorem d_C_sourceOf_1 : decode prog_2_method_12_code 1 = .ok (.iload_n 1, 1) := by decide +kernel
theorem d_C_sourceOf_2 : decode prog_2_method_12_code 2 = .ok (.invokevirtual 29, 3) := by decide +kernel
theorem d_C_sourceOf_5 : decode prog_2_method_12_code 5 = .ok (.ifCond .eq 12, 3) := by decide +kernel
theorem d_C_sourceOf_8 : decode prog_2_method_12_code 8 = .ok (.aload_n 0, 1) := by decide +kernel
theorem d_C_sourceOf_9 : decode prog_2_method_12_code 9 = .ok (.getfield 19, 3) := by decide +kernel
theorem d_C_sourceOf_12 : decode prog_2_method_12_code 12 = .ok (.iload_n 1, 1) := by decide +kernel
theorem d_C_sourceOf_13 : decode prog_2_method_12_code 13 = .ok (.iaload, 1) := by decide +kernel
theorem d_C_sourceOf_14 : decode prog_2_method_12_code 14 = .ok (.goto 4, 3) := by decide +kernel
theorem d_C_sourceOf_17 : decode prog_2_method_12_code 17 = .ok (.iconst (-1), 1) := by decide +kernel
theorem d_C_sourceOf_18 : decode prog_2_method_12_code 18 = .ok (.ireturn, 1) := by decide +kernel
theorem d_C_has_0 : decode prog_2_method_3_code 0 = .ok (.iload_n 1, 1) := by decide +kernel
theorem d_C_has_1 : decode prog_2_method_3_code 1 = .ok (.ifCond .lt 15, 3) := by decide +kernel
theorem d_C_has_4 : decode prog_2_method_3_code 4 = .ok (.iload_n 1, 1) := by decide +kernel
theorem d_C_has_5 : decode prog_2_method_3_code 5 = .ok (.aload_n 0, 1) := by decide +kernel
theorem d_C_has_6 : decode prog_2_method_3_code 6 = .ok (.getfield 25, 3) := by decide +kernel
theorem d_C_has_9 : decode prog_2_method_3_code 9 = .ok (.if_icmp .ge 7, 3) := by decide +kernel
theorem d_C_has_12 : decode prog_2_method_3_code 12 = .ok (.iconst 1, 1) := by decide +kernel
theorem d_C_has_13 : decode prog_2_method_3_code 13 = .ok (.goto 4, 3) := by decide +kernel
theorem d_C_has_16 : decode prog_2_method_3_code 16 = .ok (.iconst 0, 1) := by decide +kernel
theorem d_C_has_17 : decode prog_2_method_3_code 17 = .ok (.ireturn, 1) := by decide +kernel
theorem d_R_alike_0 : decode prog_4_method_6_code 0 = .ok (.aload_n 0, 1) := by decide +kernel
theorem d_R_alike_1 : decode prog_4_method_6_code 1 = .ok (.iload_n 1, 1) := by decide +kernel
theorem d_R_alike_2 : decode prog_4_method_6_code 2 = .ok (.invokevirtual 32, 3) := by decide +kernel
theorem d_R_alike_5 : decode prog_4_method_6_code 5 = .ok (.ifCond .eq 76, 3) := by decide +kernel
theorem d_R_alike_8 : decode prog_4_method_6_code 8 = .ok (.aload_n 0, 1) := by decide +kernel
theorem d_R_alike_9 : decode prog_4_method_6_code 9 = .ok (.iload_n 2, 1) := by decide +kernel
theorem d_R_alike_10 : decode prog_4_method_6_code 10 = .ok (.invokevirtual 32, 3) := by decide +kernel
theorem d_R_alike_13 : decode prog_4_method_6_code 13 = .ok (.ifCond .eq 68, 3) := by decide +kernel
theorem d_R_alike_16 : decode prog_4_method_6_code 16 = .ok (.aload_n 0, 1) := by decide +kernel
theorem d_R_alike_17 : decode prog_4_method_6_code 17 = .ok (.getfield 9, 3) := by decide +kernel
theorem d_R_alike_20 : decode prog_4_method_6_code 20 = .ok (.iload_n 1, 1) := by decide +kernel
theorem d_R_alike_21 : decode prog_4_method_6_code 21 = .ok (.iaload, 1) := by decide +kernel
theorem d_R_alike_22 : decode prog_4_method_6_code 22 = .ok (.aload_n 0, 1) := by decide +kernel
theorem d_R_alike_23 : decode prog_4_method_6_code 23 = .ok (.getfield 9, 3) := by decide +kernel
theorem d_R_alike_26 : decode prog_4_method_6_code 26 = .ok (.iload_n 2, 1) := by decide +kernel
theorem d_R_alike_27 : decode prog_4_method_6_code 27 = .ok (.iaload, 1) := by decide +kernel
theorem d_R_alike_28 : decode prog_4_method_6_code 28 = .ok (.if_icmp .ne 53, 3) := by decide +kernel
theorem d_R_alike_31 : decode prog_4_method_6_code 31 = .ok (.aload_n 0, 1) := by decide +kernel
theorem d_R_alike_32 : decode prog_4_method_6_code 32 = .ok (.getfield 18, 3) := by decide +kernel
theorem d_R_alike_35 : decode prog_4_method_6_code 35 = .ok (.iload_n 1, 1) := by decide +kernel
theorem d_R_alike_36 : decode prog_4_method_6_code 36 = .ok (.iaload, 1) := by decide +kernel
theorem d_R_alike_37 : decode prog_4_method_6_code 37 = .ok (.aload_n 0, 1) := by decide +kernel
theorem d_R_alike_38 : decode prog_4_method_6_code 38 = .ok (.getfield 18, 3) := by decide +kernel
theorem d_R_alike_41 : decode prog_4_method_6_code 41 = .ok (.iload_n 2, 1) := by decide +kernel
theorem d_R_alike_42 : decode prog_4_method_6_code 42 = .ok (.iaload, 1) := by decide +kernel
theorem d_R_alike_43 : decode prog_4_method_6_code 43 = .ok (.if_icmp .ne 38, 3) := by decide +kernel
theorem d_R_alike_46 : decode prog_4_method_6_code 46 = .ok (.aload_n 0, 1) := by decide +kernel
theorem d_R_alike_47 : decode prog_4_method_6_code 47 = .ok (.getfield 21, 3) := by decide +kernel
theorem d_R_alike_50 : decode prog_4_method_6_code 50 = .ok (.iload_n 1, 1) := by decide +kernel
theorem d_R_alike_51 : decode prog_4_method_6_code 51 = .ok (.laload, 1) := by decide +kernel
theorem d_R_alike_52 : decode prog_4_method_6_code 52 = .ok (.aload_n 0, 1) := by decide +kernel
theorem d_R_alike_53 : decode prog_4_method_6_code 53 = .ok (.getfield 21, 3) := by decide +kernel
theorem d_R_alike_56 : decode prog_4_method_6_code 56 = .ok (.iload_n 2, 1) := by decide +kernel
theorem d_R_alike_57 : decode prog_4_method_6_code 57 = .ok (.laload, 1) := by decide +kernel
theorem d_R_alike_58 : decode prog_4_method_6_code 58 = .ok (.lcmp, 1) := by decide +kernel
theorem d_R_alike_59 : decode prog_4_method_6_code 59 = .ok (.ifCond .ne 22, 3) := by decide +kernel
theorem d_R_alike_62 : decode prog_4_method_6_code 62 = .ok (.aload_n 0, 1) := by decide +kernel
theorem d_R_alike_63 : decode prog_4_method_6_code 63 = .ok (.getfield 25, 3) := by decide +kernel
theorem d_R_alike_66 : decode prog_4_method_6_code 66 = .ok (.iload_n 1, 1) := by decide +kernel
theorem d_R_alike_67 : decode prog_4_method_6_code 67 = .ok (.iaload, 1) := by decide +kernel
theorem d_R_alike_68 : decode prog_4_method_6_code 68 = .ok (.aload_n 0, 1) := by decide +kernel
theorem d_R_alike_69 : decode prog_4_method_6_code 69 = .ok (.getfield 25, 3) := by decide +kernel
theorem d_R_alike_72 : decode prog_4_method_6_code 72 = .ok (.iload_n 2, 1) := by decide +kernel
theorem d_R_alike_73 : decode prog_4_method_6_code 73 = .ok (.iaload, 1) := by decide +kernel
theorem d_R_alike_74 : decode prog_4_method_6_code 74 = .ok (.if_icmp .ne 7, 3) := by decide +kernel
theorem d_R_alike_77 : decode prog_4_method_6_code 77 = .ok (.iconst 1, 1) := by decide +kernel
theorem d_R_alike_78 : decode prog_4_method_6_code 78 = .ok (.goto 4, 3) := by decide +kernel
theorem d_R_alike_81 : decode prog_4_method_6_code 81 = .ok (.iconst 0, 1) := by decide +kernel
theorem d_R_alike_82 : decode prog_4_method_6_code 82 = .ok (.ireturn, 1) := by decide +kernel
theorem d_C_runOf_0 : decode prog_2_method_13_code 0 = .ok (.aload_n 0, 1) := by decide +kernel
theorem d_C_runOf_1 : decode prog_2_method_13_code 1 = .ok (.iload_n 1, 1) := by decide +kernel
theorem d_C_runOf_2 : decode prog_2_method_13_code 2 = .ok (.invokevirtual 29, 3) := by decide +kernel
theorem d_C_runOf_5 : decode prog_2_method_13_code 5 = .ok (.ifCond .eq 12, 3) := by decide +kernel
theorem d_C_runOf_8 : decode prog_2_method_13_code 8 = .ok (.aload_n 0, 1) := by decide +kernel
theorem d_C_runOf_9 : decode prog_2_method_13_code 9 = .ok (.getfield 22, 3) := by decide +kernel
theorem d_C_runOf_12 : decode prog_2_method_13_code 12 = .ok (.iload_n 1, 1) := by decide +kernel
theorem d_C_runOf_13 : decode prog_2_method_13_code 13 = .ok (.laload, 1) := by decide +kernel
theorem d_C_runOf_14 : decode prog_2_method_13_code 14 = .ok (.goto 4, 3) := by decide +kernel
theorem d_C_runOf_17 : decode prog_2_method_13_code 17 = .ok (.lconst 0, 1) := by decide +kernel
theorem d_C_runOf_18 : decode prog_2_method_13_code 18 = .ok (.lreturn, 1) := by decide +kernel
theorem d_D_deriveFrom_0 : decode prog_1_method_27_code 0 = .ok (.aload_n 0, 1) := by decide +kernel
theorem d_D_deriveFrom_1 : decode prog_1_method_27_code 1 = .ok (.getfield 26, 3) := by decide +kernel
theorem d_D_deriveFrom_4 : decode prog_1_method_27_code 4 = .ok (.iload_n 1, 1) := by decide +kernel
theorem d_D_deriveFrom_5 : decode prog_1_method_27_code 5 = .ok (.invokevirtual 190, 3) := by decide +kernel
theorem d_D_deriveFrom_8 : decode prog_1_method_27_code 8 = .ok (.aload_n 0, 1) := by decide +kernel
theorem d_D_deriveFrom_9 : decode prog_1_method_27_code 9 = .ok (.getfield 26, 3) := by decide +kernel
theorem d_D_deriveFrom_12 : decode prog_1_method_27_code 12 = .ok (.iload_n 1, 1) := by decide +kernel
theorem d_D_deriveFrom_13 : decode prog_1_method_27_code 13 = .ok (.invokevirtual 175, 3) := by decide +kernel
theorem d_D_deriveFrom_16 : decode prog_1_method_27_code 16 = .ok (.invokestatic 193, 3) := by decide +kernel
theorem d_D_deriveFrom_19 : decode prog_1_method_27_code 19 = .ok (.lstore_n 2, 1) := by decide +kernel
theorem d_D_deriveFrom_20 : decode prog_1_method_27_code 20 = .ok (.aload_n 0, 1) := by decide +kernel
theorem d_D_deriveFrom_21 : decode prog_1_method_27_code 21 = .ok (.getfield 33, 3) := by decide +kernel
theorem d_D_deriveFrom_24 : decode prog_1_method_27_code 24 = .ok (.iload_n 1, 1) := by decide +kernel
theorem d_D_deriveFrom_25 : decode prog_1_method_27_code 25 = .ok (.lload_n 2, 1) := by decide +kernel
theorem d_D_deriveFrom_26 : decode prog_1_method_27_code 26 = .ok (.invokevirtual 111, 3) := by decide +kernel
theorem d_D_deriveFrom_29 : decode prog_1_method_27_code 29 = .ok (.istore 4, 2) := by decide +kernel
theorem d_D_deriveFrom_31 : decode prog_1_method_27_code 31 = .ok (.iload 4, 2) := by decide +kernel
theorem d_D_deriveFrom_33 : decode prog_1_method_27_code 33 = .ok (.iconst (-1), 1) := by decide +kernel
theorem d_D_deriveFrom_34 : decode prog_1_method_27_code 34 = .ok (.if_icmp .ne 5, 3) := by decide +kernel
theorem d_D_deriveFrom_37 : decode prog_1_method_27_code 37 = .ok (.iconst 0, 1) := by decide +kernel
theorem d_D_deriveFrom_38 : decode prog_1_method_27_code 38 = .ok (.ireturn, 1) := by decide +kernel
theorem d_D_deriveFrom_39 : decode prog_1_method_27_code 39 = .ok (.aload_n 0, 1) := by decide +kernel
theorem d_D_deriveFrom_40 : decode prog_1_method_27_code 40 = .ok (.iload 4, 2) := by decide +kernel
theorem d_D_deriveFrom_42 : decode prog_1_method_27_code 42 = .ok (.aload_n 0, 1) := by decide +kernel
theorem d_D_deriveFrom_43 : decode prog_1_method_27_code 43 = .ok (.getfield 26, 3) := by decide +kernel
theorem d_D_deriveFrom_46 : decode prog_1_method_27_code 46 = .ok (.iload_n 1, 1) := by decide +kernel
theorem d_D_deriveFrom_47 : decode prog_1_method_27_code 47 = .ok (.invokevirtual 197, 3) := by decide +kernel
theorem d_D_deriveFrom_50 : decode prog_1_method_27_code 50 = .ok (.lload_n 2, 1) := by decide +kernel
theorem d_D_deriveFrom_51 : decode prog_1_method_27_code 51 = .ok (.invokevirtual 112, 3) := by decide +kernel
theorem d_D_deriveFrom_54 : decode prog_1_method_27_code 54 = .ok (.aload_n 0, 1) := by decide +kernel
theorem d_D_deriveFrom_55 : decode prog_1_method_27_code 55 = .ok (.getfield 26, 3) := by decide +kernel
theorem d_D_deriveFrom_58 : decode prog_1_method_27_code 58 = .ok (.iload_n 1, 1) := by decide +kernel
theorem d_D_deriveFrom_59 : decode prog_1_method_27_code 59 = .ok (.invokevirtual 198, 3) := by decide +kernel
theorem d_D_deriveFrom_62 : decode prog_1_method_27_code 62 = .ok (.istore 5, 2) := by decide +kernel
theorem d_D_deriveFrom_64 : decode prog_1_method_27_code 64 = .ok (.aload_n 0, 1) := by decide +kernel
theorem d_D_deriveFrom_65 : decode prog_1_method_27_code 65 = .ok (.iload 4, 2) := by decide +kernel
theorem d_D_deriveFrom_67 : decode prog_1_method_27_code 67 = .ok (.iload 5, 2) := by decide +kernel
theorem d_D_deriveFrom_69 : decode prog_1_method_27_code 69 = .ok (.aload_n 0, 1) := by decide +kernel
theorem d_D_deriveFrom_70 : decode prog_1_method_27_code 70 = .ok (.getfield 12, 3) := by decide +kernel
theorem d_D_deriveFrom_73 : decode prog_1_method_27_code 73 = .ok (.iload 5, 2) := by decide +kernel
theorem d_D_deriveFrom_75 : decode prog_1_method_27_code 75 = .ok (.aload_n 0, 1) := by decide +kernel
theorem d_D_deriveFrom_76 : decode prog_1_method_27_code 76 = .ok (.getfield 26, 3) := by decide +kernel
theorem d_D_deriveFrom_79 : decode prog_1_method_27_code 79 = .ok (.iload_n 1, 1) := by decide +kernel
theorem d_D_deriveFrom_80 : decode prog_1_method_27_code 80 = .ok (.invokevirtual 201, 3) := by decide +kernel
theorem d_D_deriveFrom_83 : decode prog_1_method_27_code 83 = .ok (.iconst 0, 1) := by decide +kernel
theorem d_D_deriveFrom_84 : decode prog_1_method_27_code 84 = .ok (.invokevirtual 60, 3) := by decide +kernel
theorem d_D_deriveFrom_87 : decode prog_1_method_27_code 87 = .ok (.invokevirtual 112, 3) := by decide +kernel
theorem d_D_deriveFrom_90 : decode prog_1_method_27_code 90 = .ok (.iconst 1, 1) := by decide +kernel
theorem d_D_deriveFrom_91 : decode prog_1_method_27_code 91 = .ok (.ireturn, 1) := by decide +kernel
theorem d_R_versionsLike_0 : decode prog_4_method_7_code 0 = .ok (.lconst 0, 1) := by decide +kernel
theorem d_R_versionsLike_1 : decode prog_4_method_7_code 1 = .ok (.lstore_n 2, 1) := by decide +kernel
theorem d_R_versionsLike_2 : decode prog_4_method_7_code 2 = .ok (.iconst 0, 1) := by decide +kernel
theorem d_R_versionsLike_3 : decode prog_4_method_7_code 3 = .ok (.istore 4, 2) := by decide +kernel
theorem d_R_versionsLike_5 : decode prog_4_method_7_code 5 = .ok (.iload 4, 2) := by decide +kernel
theorem d_R_versionsLike_7 : decode prog_4_method_7_code 7 = .ok (.aload_n 0, 1) := by decide +kernel
theorem d_R_versionsLike_8 : decode prog_4_method_7_code 8 = .ok (.getfield 28, 3) := by decide +kernel
theorem d_R_versionsLike_11 : decode prog_4_method_7_code 11 = .ok (.if_icmp .ge 31, 3) := by decide +kernel
theorem d_R_versionsLike_14 : decode prog_4_method_7_code 14 = .ok (.aload_n 0, 1) := by decide +kernel
theorem d_R_versionsLike_15 : decode prog_4_method_7_code 15 = .ok (.iload 4, 2) := by decide +kernel
theorem d_R_versionsLike_17 : decode prog_4_method_7_code 17 = .ok (.iload_n 1, 1) := by decide +kernel
theorem d_R_versionsLike_18 : decode prog_4_method_7_code 18 = .ok (.invokevirtual 36, 3) := by decide +kernel
theorem d_R_versionsLike_21 : decode prog_4_method_7_code 21 = .ok (.ifCond .eq 15, 3) := by decide +kernel
theorem d_R_versionsLike_24 : decode prog_4_method_7_code 24 = .ok (.lload_n 2, 1) := by decide +kernel
theorem d_R_versionsLike_25 : decode prog_4_method_7_code 25 = .ok (.lconst 1, 1) := by decide +kernel
theorem d_R_versionsLike_26 : decode prog_4_method_7_code 26 = .ok (.aload_n 0, 1) := by decide +kernel
theorem d_R_versionsLike_27 : decode prog_4_method_7_code 27 = .ok (.getfield 15, 3) := by decide +kernel
theorem d_R_versionsLike_30 : decode prog_4_method_7_code 30 = .ok (.iload 4, 2) := by decide +kernel
theorem d_R_versionsLike_32 : decode prog_4_method_7_code 32 = .ok (.iaload, 1) := by decide +kernel
theorem d_R_versionsLike_33 : decode prog_4_method_7_code 33 = .ok (.lshl, 1) := by decide +kernel
theorem d_R_versionsLike_34 : decode prog_4_method_7_code 34 = .ok (.lor, 1) := by decide +kernel
theorem d_R_versionsLike_35 : decode prog_4_method_7_code 35 = .ok (.lstore_n 2, 1) := by decide +kernel
theorem d_R_versionsLike_36 : decode prog_4_method_7_code 36 = .ok (.iinc 4 1, 3) := by decide +kernel
theorem d_R_versionsLike_39 : decode prog_4_method_7_code 39 = .ok (.goto (-34), 3) := by decide +kernel
theorem d_R_versionsLike_42 : decode prog_4_method_7_code 42 = .ok (.lload_n 2, 1) := by decide +kernel
theorem d_R_versionsLike_43 : decode prog_4_method_7_code 43 = .ok (.lreturn, 1) := by decide +kernel
theorem d_D_runAround_0 : decode prog_1_method_40_code 0 = .ok (.lconst 1, 1) := by decide +kernel
theorem d_D_runAround_1 : decode prog_1_method_40_code 1 = .ok (.iload_n 2, 1) := by decide +kernel
theorem d_D_runAround_2 : decode prog_1_method_40_code 2 = .ok (.lshl, 1) := by decide +kernel
theorem d_D_runAround_3 : decode prog_1_method_40_code 3 = .ok (.lstore_n 3, 1) := by decide +kernel
theorem d_D_runAround_4 : decode prog_1_method_40_code 4 = .ok (.iload_n 2, 1) := by decide +kernel
theorem d_D_runAround_5 : decode prog_1_method_40_code 5 = .ok (.iconst 1, 1) := by decide +kernel
theorem d_D_runAround_6 : decode prog_1_method_40_code 6 = .ok (.isub, 1) := by decide +kernel
theorem d_D_runAround_7 : decode prog_1_method_40_code 7 = .ok (.istore 5, 2) := by decide +kernel
theorem d_D_runAround_9 : decode prog_1_method_40_code 9 = .ok (.iload 5, 2) := by decide +kernel
theorem d_D_runAround_11 : decode prog_1_method_40_code 11 = .ok (.ifCond .lt 25, 3) := by decide +kernel
theorem d_D_runAround_14 : decode prog_1_method_40_code 14 = .ok (.lload_n 0, 1) := by decide +kernel
theorem d_D_runAround_15 : decode prog_1_method_40_code 15 = .ok (.iload 5, 2) := by decide +kernel
theorem d_D_runAround_17 : decode prog_1_method_40_code 17 = .ok (.invokestatic 187, 3) := by decide +kernel
theorem d_D_runAround_20 : decode prog_1_method_40_code 20 = .ok (.ifCond .eq 16, 3) := by decide +kernel
theorem d_D_runAround_23 : decode prog_1_method_40_code 23 = .ok (.lload_n 3, 1) := by decide +kernel
theorem d_D_runAround_24 : decode prog_1_method_40_code 24 = .ok (.lconst 1, 1) := by decide +kernel
theorem d_D_runAround_25 : decode prog_1_method_40_code 25 = .ok (.iload 5, 2) := by decide +kernel
end
section
theorem d_D_runAround_27 : decode prog_1_method_40_code 27 = .ok (.lshl, 1) := by decide +kernel
theorem d_D_runAround_28 : decode prog_1_method_40_code 28 = .ok (.lor, 1) := by decide +kernel
theorem d_D_runAround_29 : decode prog_1_method_40_code 29 = .ok (.lstore_n 3, 1) := by decide +kernel
theorem d_D_runAround_30 : decode prog_1_method_40_code 30 = .ok (.iinc 5 (-1), 3) := by decide +kernel
theorem d_D_runAround_33 : decode prog_1_method_40_code 33 = .ok (.goto (-24), 3) := by decide +kernel
theorem d_D_runAround_36 : decode prog_1_method_40_code 36 = .ok (.iload_n 2, 1) := by decide +kernel
theorem d_D_runAround_37 : decode prog_1_method_40_code 37 = .ok (.iconst 1, 1) := by decide +kernel
theorem d_D_runAround_38 : decode prog_1_method_40_code 38 = .ok (.iadd, 1) := by decide +kernel
theorem d_D_runAround_39 : decode prog_1_method_40_code 39 = .ok (.istore 5, 2) := by decide +kernel
theorem d_D_runAround_41 : decode prog_1_method_40_code 41 = .ok (.iload 5, 2) := by decide +kernel
theorem d_D_runAround_43 : decode prog_1_method_40_code 43 = .ok (.bipush 48, 2) := by decide +kernel
theorem d_D_runAround_45 : decode prog_1_method_40_code 45 = .ok (.if_icmp .ge 25, 3) := by decide +kernel
theorem d_D_runAround_48 : decode prog_1_method_40_code 48 = .ok (.lload_n 0, 1) := by decide +kernel
theorem d_D_runAround_49 : decode prog_1_method_40_code 49 = .ok (.iload 5, 2) := by decide +kernel
theorem d_D_runAround_51 : decode prog_1_method_40_code 51 = .ok (.invokestatic 187, 3) := by decide +kernel
theorem d_D_runAround_54 : decode prog_1_method_40_code 54 = .ok (.ifCond .eq 16, 3) := by decide +kernel
theorem d_D_runAround_57 : decode prog_1_method_40_code 57 = .ok (.lload_n 3, 1) := by decide +kernel
theorem d_D_runAround_58 : decode prog_1_method_40_code 58 = .ok (.lconst 1, 1) := by decide +kernel
theorem d_D_runAround_59 : decode prog_1_method_40_code 59 = .ok (.iload 5, 2) := by decide +kernel
theorem d_D_runAround_61 : decode prog_1_method_40_code 61 = .ok (.lshl, 1) := by decide +kernel
theorem d_D_runAround_62 : decode prog_1_method_40_code 62 = .ok (.lor, 1) := by decide +kernel
theorem d_D_runAround_63 : decode prog_1_method_40_code 63 = .ok (.lstore_n 3, 1) := by decide +kernel
theorem d_D_runAround_64 : decode prog_1_method_40_code 64 = .ok (.iinc 5 1, 3) := by decide +kernel
theorem d_D_runAround_67 : decode prog_1_method_40_code 67 = .ok (.goto (-26), 3) := by decide +kernel
theorem d_D_runAround_70 : decode prog_1_method_40_code 70 = .ok (.lload_n 3, 1) := by decide +kernel
theorem d_D_runAround_71 : decode prog_1_method_40_code 71 = .ok (.lreturn, 1) := by decide +kernel
theorem d_C_add_0 : decode prog_2_method_4_code 0 = .ok (.aload_n 0, 1) := by decide +kernel
theorem d_C_add_1 : decode prog_2_method_4_code 1 = .ok (.getfield 25, 3) := by decide +kernel
theorem d_C_add_4 : decode prog_2_method_4_code 4 = .ok (.sipush 300, 3) := by decide +kernel
theorem d_C_add_7 : decode prog_2_method_4_code 7 = .ok (.if_icmp .lt 5, 3) := by decide +kernel
theorem d_C_add_10 : decode prog_2_method_4_code 10 = .ok (.iconst (-1), 1) := by decide +kernel
theorem d_C_add_11 : decode prog_2_method_4_code 11 = .ok (.ireturn, 1) := by decide +kernel
theorem d_C_add_12 : decode prog_2_method_4_code 12 = .ok (.aload_n 0, 1) := by decide +kernel
theorem d_C_add_13 : decode prog_2_method_4_code 13 = .ok (.getfield 9, 3) := by decide +kernel
theorem d_C_add_16 : decode prog_2_method_4_code 16 = .ok (.aload_n 0, 1) := by decide +kernel
theorem d_C_add_17 : decode prog_2_method_4_code 17 = .ok (.getfield 25, 3) := by decide +kernel
theorem d_C_add_20 : decode prog_2_method_4_code 20 = .ok (.iconst 0, 1) := by decide +kernel
theorem d_C_add_21 : decode prog_2_method_4_code 21 = .ok (.iastore, 1) := by decide +kernel
theorem d_C_add_22 : decode prog_2_method_4_code 22 = .ok (.aload_n 0, 1) := by decide +kernel
theorem d_C_add_23 : decode prog_2_method_4_code 23 = .ok (.getfield 19, 3) := by decide +kernel
theorem d_C_add_26 : decode prog_2_method_4_code 26 = .ok (.aload_n 0, 1) := by decide +kernel
theorem d_C_add_27 : decode prog_2_method_4_code 27 = .ok (.getfield 25, 3) := by decide +kernel
theorem d_C_add_30 : decode prog_2_method_4_code 30 = .ok (.iload_n 1, 1) := by decide +kernel
theorem d_C_add_31 : decode prog_2_method_4_code 31 = .ok (.iastore, 1) := by decide +kernel
theorem d_C_add_32 : decode prog_2_method_4_code 32 = .ok (.aload_n 0, 1) := by decide +kernel
theorem d_C_add_33 : decode prog_2_method_4_code 33 = .ok (.getfield 22, 3) := by decide +kernel
theorem d_C_add_36 : decode prog_2_method_4_code 36 = .ok (.aload_n 0, 1) := by decide +kernel
theorem d_C_add_37 : decode prog_2_method_4_code 37 = .ok (.getfield 25, 3) := by decide +kernel
theorem d_C_add_40 : decode prog_2_method_4_code 40 = .ok (.lload_n 2, 1) := by decide +kernel
theorem d_C_add_41 : decode prog_2_method_4_code 41 = .ok (.lastore, 1) := by decide +kernel
theorem d_C_add_42 : decode prog_2_method_4_code 42 = .ok (.aload_n 0, 1) := by decide +kernel
theorem d_C_add_43 : decode prog_2_method_4_code 43 = .ok (.dup, 1) := by decide +kernel
theorem d_C_add_44 : decode prog_2_method_4_code 44 = .ok (.getfield 25, 3) := by decide +kernel
theorem d_C_add_47 : decode prog_2_method_4_code 47 = .ok (.iconst 1, 1) := by decide +kernel
theorem d_C_add_48 : decode prog_2_method_4_code 48 = .ok (.iadd, 1) := by decide +kernel
theorem d_C_add_49 : decode prog_2_method_4_code 49 = .ok (.putfield 25, 3) := by decide +kernel
theorem d_C_add_52 : decode prog_2_method_4_code 52 = .ok (.aload_n 0, 1) := by decide +kernel
theorem d_C_add_53 : decode prog_2_method_4_code 53 = .ok (.getfield 25, 3) := by decide +kernel
theorem d_C_add_56 : decode prog_2_method_4_code 56 = .ok (.iconst 1, 1) := by decide +kernel
theorem d_C_add_57 : decode prog_2_method_4_code 57 = .ok (.isub, 1) := by decide +kernel
theorem d_C_add_58 : decode prog_2_method_4_code 58 = .ok (.ireturn, 1) := by decide +kernel
theorem d_R_nameOf_0 : decode prog_4_method_8_code 0 = .ok (.aload_n 0, 1) := by decide +kernel
theorem d_R_nameOf_1 : decode prog_4_method_8_code 1 = .ok (.iload_n 1, 1) := by decide +kernel
theorem d_R_nameOf_2 : decode prog_4_method_8_code 2 = .ok (.invokevirtual 32, 3) := by decide +kernel
theorem d_R_nameOf_5 : decode prog_4_method_8_code 5 = .ok (.ifCond .eq 12, 3) := by decide +kernel
theorem d_R_nameOf_8 : decode prog_4_method_8_code 8 = .ok (.aload_n 0, 1) := by decide +kernel
theorem d_R_nameOf_9 : decode prog_4_method_8_code 9 = .ok (.getfield 9, 3) := by decide +kernel
theorem d_R_nameOf_12 : decode prog_4_method_8_code 12 = .ok (.iload_n 1, 1) := by decide +kernel
theorem d_R_nameOf_13 : decode prog_4_method_8_code 13 = .ok (.iaload, 1) := by decide +kernel
theorem d_R_nameOf_14 : decode prog_4_method_8_code 14 = .ok (.goto 4, 3) := by decide +kernel
theorem d_R_nameOf_17 : decode prog_4_method_8_code 17 = .ok (.iconst (-1), 1) := by decide +kernel
theorem d_R_nameOf_18 : decode prog_4_method_8_code 18 = .ok (.ireturn, 1) := by decide +kernel
theorem d_D_putPart_0 : decode prog_1_method_28_code 0 = .ok (.lload_n 3, 1) := by decide +kernel
theorem d_D_putPart_1 : decode prog_1_method_28_code 1 = .ok (.aload_n 0, 1) := by decide +kernel
theorem d_D_putPart_2 : decode prog_1_method_28_code 2 = .ok (.getfield 12, 3) := by decide +kernel
theorem d_D_putPart_5 : decode prog_1_method_28_code 5 = .ok (.iload_n 2, 1) := by decide +kernel
theorem d_D_putPart_6 : decode prog_1_method_28_code 6 = .ok (.invokevirtual 52, 3) := by decide +kernel
theorem d_D_putPart_9 : decode prog_1_method_28_code 9 = .ok (.lcmp, 1) := by decide +kernel
theorem d_D_putPart_10 : decode prog_1_method_28_code 10 = .ok (.ifCond .eq 13, 3) := by decide +kernel
theorem d_D_putPart_13 : decode prog_1_method_28_code 13 = .ok (.aload_n 0, 1) := by decide +kernel
theorem d_D_putPart_14 : decode prog_1_method_28_code 14 = .ok (.getfield 33, 3) := by decide +kernel
theorem d_D_putPart_17 : decode prog_1_method_28_code 17 = .ok (.iload_n 1, 1) := by decide +kernel
theorem d_D_putPart_18 : decode prog_1_method_28_code 18 = .ok (.iload_n 2, 1) := by decide +kernel
theorem d_D_putPart_19 : decode prog_1_method_28_code 19 = .ok (.lload_n 3, 1) := by decide +kernel
theorem d_D_putPart_20 : decode prog_1_method_28_code 20 = .ok (.invokevirtual 204, 3) := by decide +kernel
theorem d_D_putPart_23 : decode prog_1_method_28_code 23 = .ok (.return_, 1) := by decide +kernel
theorem d_C_put_0 : decode prog_2_method_6_code 0 = .ok (.aload_n 0, 1) := by decide +kernel
theorem d_C_put_1 : decode prog_2_method_6_code 1 = .ok (.iload_n 1, 1) := by decide +kernel
theorem d_C_put_2 : decode prog_2_method_6_code 2 = .ok (.invokevirtual 29, 3) := by decide +kernel
theorem d_C_put_5 : decode prog_2_method_6_code 5 = .ok (.ifCond .eq 37, 3) := by decide +kernel
theorem d_C_put_8 : decode prog_2_method_6_code 8 = .ok (.iload_n 2, 1) := by decide +kernel
theorem d_C_put_9 : decode prog_2_method_6_code 9 = .ok (.ifCond .lt 33, 3) := by decide +kernel
theorem d_C_put_12 : decode prog_2_method_6_code 12 = .ok (.iload_n 2, 1) := by decide +kernel
theorem d_C_put_13 : decode prog_2_method_6_code 13 = .ok (.bipush 16, 2) := by decide +kernel
theorem d_C_put_15 : decode prog_2_method_6_code 15 = .ok (.if_icmp .ge 27, 3) := by decide +kernel
theorem d_C_put_18 : decode prog_2_method_6_code 18 = .ok (.aload_n 0, 1) := by decide +kernel
theorem d_C_put_19 : decode prog_2_method_6_code 19 = .ok (.getfield 9, 3) := by decide +kernel
theorem d_C_put_22 : decode prog_2_method_6_code 22 = .ok (.iload_n 1, 1) := by decide +kernel
theorem d_C_put_23 : decode prog_2_method_6_code 23 = .ok (.dup2, 1) := by decide +kernel
theorem d_C_put_24 : decode prog_2_method_6_code 24 = .ok (.iaload, 1) := by decide +kernel
theorem d_C_put_25 : decode prog_2_method_6_code 25 = .ok (.iconst 1, 1) := by decide +kernel
theorem d_C_put_26 : decode prog_2_method_6_code 26 = .ok (.iload_n 2, 1) := by decide +kernel
theorem d_C_put_27 : decode prog_2_method_6_code 27 = .ok (.ishl, 1) := by decide +kernel
theorem d_C_put_28 : decode prog_2_method_6_code 28 = .ok (.ior, 1) := by decide +kernel
theorem d_C_put_29 : decode prog_2_method_6_code 29 = .ok (.iastore, 1) := by decide +kernel
theorem d_C_put_30 : decode prog_2_method_6_code 30 = .ok (.aload_n 0, 1) := by decide +kernel
theorem d_C_put_31 : decode prog_2_method_6_code 31 = .ok (.getfield 15, 3) := by decide +kernel
theorem d_C_put_34 : decode prog_2_method_6_code 34 = .ok (.iload_n 1, 1) := by decide +kernel
theorem d_C_put_35 : decode prog_2_method_6_code 35 = .ok (.bipush 16, 2) := by decide +kernel
theorem d_C_put_37 : decode prog_2_method_6_code 37 = .ok (.imul, 1) := by decide +kernel
theorem d_C_put_38 : decode prog_2_method_6_code 38 = .ok (.iload_n 2, 1) := by decide +kernel
theorem d_C_put_39 : decode prog_2_method_6_code 39 = .ok (.iadd, 1) := by decide +kernel
theorem d_C_put_40 : decode prog_2_method_6_code 40 = .ok (.lload_n 3, 1) := by decide +kernel
theorem d_C_put_41 : decode prog_2_method_6_code 41 = .ok (.lastore, 1) := by decide +kernel
theorem d_C_put_42 : decode prog_2_method_6_code 42 = .ok (.return_, 1) := by decide +kernel
theorem d_R_otherOf_0 : decode prog_4_method_10_code 0 = .ok (.aload_n 0, 1) := by decide +kernel
theorem d_R_otherOf_1 : decode prog_4_method_10_code 1 = .ok (.iload_n 1, 1) := by decide +kernel
theorem d_R_otherOf_2 : decode prog_4_method_10_code 2 = .ok (.invokevirtual 32, 3) := by decide +kernel
theorem d_R_otherOf_5 : decode prog_4_method_10_code 5 = .ok (.ifCond .eq 12, 3) := by decide +kernel
theorem d_R_otherOf_8 : decode prog_4_method_10_code 8 = .ok (.aload_n 0, 1) := by decide +kernel
theorem d_R_otherOf_9 : decode prog_4_method_10_code 9 = .ok (.getfield 18, 3) := by decide +kernel
theorem d_R_otherOf_12 : decode prog_4_method_10_code 12 = .ok (.iload_n 1, 1) := by decide +kernel
theorem d_R_otherOf_13 : decode prog_4_method_10_code 13 = .ok (.iaload, 1) := by decide +kernel
theorem d_R_otherOf_14 : decode prog_4_method_10_code 14 = .ok (.goto 4, 3) := by decide +kernel
theorem d_R_otherOf_17 : decode prog_4_method_10_code 17 = .ok (.iconst (-1), 1) := by decide +kernel
theorem d_R_otherOf_18 : decode prog_4_method_10_code 18 = .ok (.ireturn, 1) := by decide +kernel
theorem d_R_neededOf_0 : decode prog_4_method_11_code 0 = .ok (.aload_n 0, 1) := by decide +kernel
theorem d_R_neededOf_1 : decode prog_4_method_11_code 1 = .ok (.iload_n 1, 1) := by decide +kernel
theorem d_R_neededOf_2 : decode prog_4_method_11_code 2 = .ok (.invokevirtual 32, 3) := by decide +kernel
theorem d_R_neededOf_5 : decode prog_4_method_11_code 5 = .ok (.ifCond .eq 12, 3) := by decide +kernel
theorem d_R_neededOf_8 : decode prog_4_method_11_code 8 = .ok (.aload_n 0, 1) := by decide +kernel
theorem d_R_neededOf_9 : decode prog_4_method_11_code 9 = .ok (.getfield 21, 3) := by decide +kernel
theorem d_R_neededOf_12 : decode prog_4_method_11_code 12 = .ok (.iload_n 1, 1) := by decide +kernel
theorem d_R_neededOf_13 : decode prog_4_method_11_code 13 = .ok (.laload, 1) := by decide +kernel
theorem d_R_neededOf_14 : decode prog_4_method_11_code 14 = .ok (.goto 4, 3) := by decide +kernel
theorem d_R_neededOf_17 : decode prog_4_method_11_code 17 = .ok (.lconst 0, 1) := by decide +kernel
theorem d_R_neededOf_18 : decode prog_4_method_11_code 18 = .ok (.lreturn, 1) := by decide +kernel
theorem d_C_cutTo_0 : decode prog_2_method_5_code 0 = .ok (.iload_n 1, 1) := by decide +kernel
theorem d_C_cutTo_1 : decode prog_2_method_5_code 1 = .ok (.ifCond .lt 16, 3) := by decide +kernel
theorem d_C_cutTo_4 : decode prog_2_method_5_code 4 = .ok (.iload_n 1, 1) := by decide +kernel
theorem d_C_cutTo_5 : decode prog_2_method_5_code 5 = .ok (.aload_n 0, 1) := by decide +kernel
theorem d_C_cutTo_6 : decode prog_2_method_5_code 6 = .ok (.getfield 25, 3) := by decide +kernel
theorem d_C_cutTo_9 : decode prog_2_method_5_code 9 = .ok (.if_icmp .ge 8, 3) := by decide +kernel
theorem d_C_cutTo_12 : decode prog_2_method_5_code 12 = .ok (.aload_n 0, 1) := by decide +kernel
theorem d_C_cutTo_13 : decode prog_2_method_5_code 13 = .ok (.iload_n 1, 1) := by decide +kernel
theorem d_C_cutTo_14 : decode prog_2_method_5_code 14 = .ok (.putfield 25, 3) := by decide +kernel
theorem d_C_cutTo_17 : decode prog_2_method_5_code 17 = .ok (.return_, 1) := by decide +kernel
theorem d_D_bar_0 : decode prog_1_method_10_code 0 = .ok (.aload_n 0, 1) := by decide +kernel
theorem d_D_bar_1 : decode prog_1_method_10_code 1 = .ok (.getfield 12, 3) := by decide +kernel
theorem d_D_bar_4 : decode prog_1_method_10_code 4 = .ok (.iload_n 1, 1) := by decide +kernel
theorem d_D_bar_5 : decode prog_1_method_10_code 5 = .ok (.invokevirtual 56, 3) := by decide +kernel
theorem d_D_bar_8 : decode prog_1_method_10_code 8 = .ok (.ifCond .ne 5, 3) := by decide +kernel
theorem d_D_bar_11 : decode prog_1_method_10_code 11 = .ok (.iconst (-1), 1) := by decide +kernel
theorem d_D_bar_12 : decode prog_1_method_10_code 12 = .ok (.ireturn, 1) := by decide +kernel
theorem d_D_bar_13 : decode prog_1_method_10_code 13 = .ok (.aload_n 0, 1) := by decide +kernel
theorem d_D_bar_14 : decode prog_1_method_10_code 14 = .ok (.getfield 33, 3) := by decide +kernel
theorem d_D_bar_17 : decode prog_1_method_10_code 17 = .ok (.iconst (-1), 1) := by decide +kernel
theorem d_D_bar_18 : decode prog_1_method_10_code 18 = .ok (.lconst 0, 1) := by decide +kernel
theorem d_D_bar_19 : decode prog_1_method_10_code 19 = .ok (.invokevirtual 111, 3) := by decide +kernel
theorem d_D_bar_22 : decode prog_1_method_10_code 22 = .ok (.istore 5, 2) := by decide +kernel
theorem d_D_bar_24 : decode prog_1_method_10_code 24 = .ok (.iload 5, 2) := by decide +kernel
theorem d_D_bar_26 : decode prog_1_method_10_code 26 = .ok (.iconst (-1), 1) := by decide +kernel
theorem d_D_bar_27 : decode prog_1_method_10_code 27 = .ok (.if_icmp .eq 29, 3) := by decide +kernel
theorem d_D_bar_30 : decode prog_1_method_10_code 30 = .ok (.aload_n 0, 1) := by decide +kernel
theorem d_D_bar_31 : decode prog_1_method_10_code 31 = .ok (.iload 5, 2) := by decide +kernel
theorem d_D_bar_33 : decode prog_1_method_10_code 33 = .ok (.iload_n 1, 1) := by decide +kernel
theorem d_D_bar_34 : decode prog_1_method_10_code 34 = .ok (.aload_n 0, 1) := by decide +kernel
theorem d_D_bar_35 : decode prog_1_method_10_code 35 = .ok (.getfield 12, 3) := by decide +kernel
theorem d_D_bar_38 : decode prog_1_method_10_code 38 = .ok (.iload_n 1, 1) := by decide +kernel
theorem d_D_bar_39 : decode prog_1_method_10_code 39 = .ok (.lload_n 2, 1) := by decide +kernel
theorem d_D_bar_40 : decode prog_1_method_10_code 40 = .ok (.iload 4, 2) := by decide +kernel
theorem d_D_bar_42 : decode prog_1_method_10_code 42 = .ok (.ifCond .ne 7, 3) := by decide +kernel
theorem d_D_bar_45 : decode prog_1_method_10_code 45 = .ok (.iconst 1, 1) := by decide +kernel
theorem d_D_bar_46 : decode prog_1_method_10_code 46 = .ok (.goto 4, 3) := by decide +kernel
theorem d_D_bar_49 : decode prog_1_method_10_code 49 = .ok (.iconst 0, 1) := by decide +kernel
theorem d_D_bar_50 : decode prog_1_method_10_code 50 = .ok (.invokevirtual 60, 3) := by decide +kernel
theorem d_D_bar_53 : decode prog_1_method_10_code 53 = .ok (.invokevirtual 112, 3) := by decide +kernel
theorem d_D_bar_56 : decode prog_1_method_10_code 56 = .ok (.iload 5, 2) := by decide +kernel
theorem d_D_bar_58 : decode prog_1_method_10_code 58 = .ok (.ireturn, 1) := by decide +kernel
theorem d_D_learn_0 : decode prog_1_method_11_code 0 = .ok (.aload_n 0, 1) := by decide +kernel
theorem d_D_learn_1 : decode prog_1_method_11_code 1 = .ok (.getfield 33, 3) := by decide +kernel
theorem d_D_learn_4 : decode prog_1_method_11_code 4 = .ok (.iload_n 1, 1) := by decide +kernel
theorem d_D_learn_5 : decode prog_1_method_11_code 5 = .ok (.iload_n 3, 1) := by decide +kernel
theorem d_D_learn_6 : decode prog_1_method_11_code 6 = .ok (.invokevirtual 116, 3) := by decide +kernel
theorem d_D_learn_9 : decode prog_1_method_11_code 9 = .ok (.ifCond .eq 15, 3) := by decide +kernel
theorem d_D_learn_12 : decode prog_1_method_11_code 12 = .ok (.aload_n 0, 1) := by decide +kernel
theorem d_D_learn_13 : decode prog_1_method_11_code 13 = .ok (.getfield 33, 3) := by decide +kernel
theorem d_D_learn_16 : decode prog_1_method_11_code 16 = .ok (.iload_n 2, 1) := by decide +kernel
theorem d_D_learn_17 : decode prog_1_method_11_code 17 = .ok (.iload_n 3, 1) := by decide +kernel
theorem d_D_learn_18 : decode prog_1_method_11_code 18 = .ok (.invokevirtual 116, 3) := by decide +kernel
theorem d_D_learn_21 : decode prog_1_method_11_code 21 = .ok (.ifCond .ne 5, 3) := by decide +kernel
theorem d_D_learn_24 : decode prog_1_method_11_code 24 = .ok (.iconst (-1), 1) := by decide +kernel
theorem d_D_learn_25 : decode prog_1_method_11_code 25 = .ok (.ireturn, 1) := by decide +kernel
theorem d_D_learn_26 : decode prog_1_method_11_code 26 = .ok (.aload_n 0, 1) := by decide +kernel
theorem d_D_learn_27 : decode prog_1_method_11_code 27 = .ok (.getfield 33, 3) := by decide +kernel
theorem d_D_learn_30 : decode prog_1_method_11_code 30 = .ok (.iconst (-1), 1) := by decide +kernel
theorem d_D_learn_31 : decode prog_1_method_11_code 31 = .ok (.lconst 0, 1) := by decide +kernel
theorem d_D_learn_32 : decode prog_1_method_11_code 32 = .ok (.invokevirtual 111, 3) := by decide +kernel
theorem d_D_learn_35 : decode prog_1_method_11_code 35 = .ok (.istore 4, 2) := by decide +kernel
theorem d_D_learn_37 : decode prog_1_method_11_code 37 = .ok (.iload 4, 2) := by decide +kernel
theorem d_D_learn_39 : decode prog_1_method_11_code 39 = .ok (.iconst (-1), 1) := by decide +kernel
theorem d_D_learn_40 : decode prog_1_method_11_code 40 = .ok (.if_icmp .ne 5, 3) := by decide +kernel
theorem d_D_learn_43 : decode prog_1_method_11_code 43 = .ok (.iconst (-1), 1) := by decide +kernel
theorem d_D_learn_44 : decode prog_1_method_11_code 44 = .ok (.ireturn, 1) := by decide +kernel
theorem d_D_learn_45 : decode prog_1_method_11_code 45 = .ok (.iconst 0, 1) := by decide +kernel
theorem d_D_learn_46 : decode prog_1_method_11_code 46 = .ok (.istore 5, 2) := by decide +kernel
theorem d_D_learn_48 : decode prog_1_method_11_code 48 = .ok (.iload 5, 2) := by decide +kernel
theorem d_D_learn_50 : decode prog_1_method_11_code 50 = .ok (.aload_n 0, 1) := by decide +kernel
theorem d_D_learn_51 : decode prog_1_method_11_code 51 = .ok (.getfield 12, 3) := by decide +kernel
theorem d_D_learn_54 : decode prog_1_method_11_code 54 = .ok (.invokevirtual 119, 3) := by decide +kernel
theorem d_D_learn_57 : decode prog_1_method_11_code 57 = .ok (.if_icmp .ge 54, 3) := by decide +kernel
theorem d_D_learn_60 : decode prog_1_method_11_code 60 = .ok (.aload_n 0, 1) := by decide +kernel
theorem d_D_learn_61 : decode prog_1_method_11_code 61 = .ok (.iload_n 1, 1) := by decide +kernel
theorem d_D_learn_62 : decode prog_1_method_11_code 62 = .ok (.iload 5, 2) := by decide +kernel
theorem d_D_learn_64 : decode prog_1_method_11_code 64 = .ok (.invokevirtual 120, 3) := by decide +kernel
theorem d_D_learn_67 : decode prog_1_method_11_code 67 = .ok (.lstore 6, 2) := by decide +kernel
theorem d_D_learn_69 : decode prog_1_method_11_code 69 = .ok (.aload_n 0, 1) := by decide +kernel
theorem d_D_learn_70 : decode prog_1_method_11_code 70 = .ok (.iload_n 2, 1) := by decide +kernel
theorem d_D_learn_71 : decode prog_1_method_11_code 71 = .ok (.iload 5, 2) := by decide +kernel
theorem d_D_learn_73 : decode prog_1_method_11_code 73 = .ok (.invokevirtual 120, 3) := by decide +kernel
theorem d_D_learn_76 : decode prog_1_method_11_code 76 = .ok (.lstore 8, 2) := by decide +kernel
theorem d_D_learn_78 : decode prog_1_method_11_code 78 = .ok (.aload_n 0, 1) := by decide +kernel
theorem d_D_learn_79 : decode prog_1_method_11_code 79 = .ok (.iload 4, 2) := by decide +kernel
theorem d_D_learn_81 : decode prog_1_method_11_code 81 = .ok (.iload 5, 2) := by decide +kernel
theorem d_D_learn_83 : decode prog_1_method_11_code 83 = .ok (.iload 5, 2) := by decide +kernel
theorem d_D_learn_85 : decode prog_1_method_11_code 85 = .ok (.iload_n 3, 1) := by decide +kernel
theorem d_D_learn_86 : decode prog_1_method_11_code 86 = .ok (.if_icmp .ne 11, 3) := by decide +kernel
theorem d_D_learn_89 : decode prog_1_method_11_code 89 = .ok (.lload 6, 2) := by decide +kernel
theorem d_D_learn_91 : decode prog_1_method_11_code 91 = .ok (.lload 8, 2) := by decide +kernel
theorem d_D_learn_93 : decode prog_1_method_11_code 93 = .ok (.lor, 1) := by decide +kernel
theorem d_D_learn_94 : decode prog_1_method_11_code 94 = .ok (.goto 8, 3) := by decide +kernel
theorem d_D_learn_97 : decode prog_1_method_11_code 97 = .ok (.lload 6, 2) := by decide +kernel
theorem d_D_learn_99 : decode prog_1_method_11_code 99 = .ok (.lload 8, 2) := by decide +kernel
theorem d_D_learn_101 : decode prog_1_method_11_code 101 = .ok (.land, 1) := by decide +kernel
theorem d_D_learn_102 : decode prog_1_method_11_code 102 = .ok (.invokevirtual 112, 3) := by decide +kernel
theorem d_D_learn_105 : decode prog_1_method_11_code 105 = .ok (.iinc 5 1, 3) := by decide +kernel
theorem d_D_learn_108 : decode prog_1_method_11_code 108 = .ok (.goto (-60), 3) := by decide +kernel
theorem d_D_learn_111 : decode prog_1_method_11_code 111 = .ok (.iload 4, 2) := by decide +kernel
theorem d_D_learn_113 : decode prog_1_method_11_code 113 = .ok (.ireturn, 1) := by decide +kernel
theorem d_C_holds_0 : decode prog_2_method_7_code 0 = .ok (.aload_n 0, 1) := by decide +kernel
theorem d_C_holds_1 : decode prog_2_method_7_code 1 = .ok (.iload_n 1, 1) := by decide +kernel
theorem d_C_holds_2 : decode prog_2_method_7_code 2 = .ok (.invokevirtual 29, 3) := by decide +kernel
theorem d_C_holds_5 : decode prog_2_method_7_code 5 = .ok (.ifCond .eq 30, 3) := by decide +kernel
theorem d_C_holds_8 : decode prog_2_method_7_code 8 = .ok (.iload_n 2, 1) := by decide +kernel
theorem d_C_holds_9 : decode prog_2_method_7_code 9 = .ok (.ifCond .lt 26, 3) := by decide +kernel
theorem d_C_holds_12 : decode prog_2_method_7_code 12 = .ok (.iload_n 2, 1) := by decide +kernel
theorem d_C_holds_13 : decode prog_2_method_7_code 13 = .ok (.bipush 16, 2) := by decide +kernel
theorem d_C_holds_15 : decode prog_2_method_7_code 15 = .ok (.if_icmp .ge 20, 3) := by decide +kernel
theorem d_C_holds_18 : decode prog_2_method_7_code 18 = .ok (.aload_n 0, 1) := by decide +kernel
theorem d_C_holds_19 : decode prog_2_method_7_code 19 = .ok (.getfield 9, 3) := by decide +kernel
theorem d_C_holds_22 : decode prog_2_method_7_code 22 = .ok (.iload_n 1, 1) := by decide +kernel
theorem d_C_holds_23 : decode prog_2_method_7_code 23 = .ok (.iaload, 1) := by decide +kernel
theorem d_C_holds_24 : decode prog_2_method_7_code 24 = .ok (.iload_n 2, 1) := by decide +kernel
theorem d_C_holds_25 : decode prog_2_method_7_code 25 = .ok (.iushr, 1) := by decide +kernel
theorem d_C_holds_26 : decode prog_2_method_7_code 26 = .ok (.iconst 1, 1) := by decide +kernel
theorem d_C_holds_27 : decode prog_2_method_7_code 27 = .ok (.iand, 1) := by decide +kernel
theorem d_C_holds_28 : decode prog_2_method_7_code 28 = .ok (.ifCond .eq 7, 3) := by decide +kernel
theorem d_C_holds_31 : decode prog_2_method_7_code 31 = .ok (.iconst 1, 1) := by decide +kernel
theorem d_C_holds_32 : decode prog_2_method_7_code 32 = .ok (.goto 4, 3) := by decide +kernel
theorem d_C_holds_35 : decode prog_2_method_7_code 35 = .ok (.iconst 0, 1) := by decide +kernel
theorem d_C_holds_36 : decode prog_2_method_7_code 36 = .ok (.ireturn, 1) := by decide +kernel
theorem d_N_size_0 : decode prog_3_method_2_code 0 = .ok (.aload_n 0, 1) := by decide +kernel
theorem d_N_size_1 : decode prog_3_method_2_code 1 = .ok (.getfield 15, 3) := by decide +kernel
theorem d_N_size_4 : decode prog_3_method_2_code 4 = .ok (.ireturn, 1) := by decide +kernel
theorem d_D_placesIn_0 : decode prog_1_method_29_code 0 = .ok (.aload_n 0, 1) := by decide +kernel
theorem d_D_placesIn_1 : decode prog_1_method_29_code 1 = .ok (.getfield 33, 3) := by decide +kernel
theorem d_D_placesIn_4 : decode prog_1_method_29_code 4 = .ok (.iload_n 1, 1) := by decide +kernel
theorem d_D_placesIn_5 : decode prog_1_method_29_code 5 = .ok (.iload_n 2, 1) := by decide +kernel
theorem d_D_placesIn_6 : decode prog_1_method_29_code 6 = .ok (.invokevirtual 116, 3) := by decide +kernel
theorem d_D_placesIn_9 : decode prog_1_method_29_code 9 = .ok (.ifCond .eq 15, 3) := by decide +kernel
theorem d_D_placesIn_12 : decode prog_1_method_29_code 12 = .ok (.aload_n 0, 1) := by decide +kernel
theorem d_D_placesIn_13 : decode prog_1_method_29_code 13 = .ok (.getfield 33, 3) := by decide +kernel
theorem d_D_placesIn_16 : decode prog_1_method_29_code 16 = .ok (.iload_n 1, 1) := by decide +kernel
theorem d_D_placesIn_17 : decode prog_1_method_29_code 17 = .ok (.iload_n 2, 1) := by decide +kernel
theorem d_D_placesIn_18 : decode prog_1_method_29_code 18 = .ok (.invokevirtual 132, 3) := by decide +kernel
theorem d_D_placesIn_21 : decode prog_1_method_29_code 21 = .ok (.goto 11, 3) := by decide +kernel
theorem d_D_placesIn_24 : decode prog_1_method_29_code 24 = .ok (.aload_n 0, 1) := by decide +kernel
theorem d_D_placesIn_25 : decode prog_1_method_29_code 25 = .ok (.getfield 12, 3) := by decide +kernel
theorem d_D_placesIn_28 : decode prog_1_method_29_code 28 = .ok (.iload_n 2, 1) := by decide +kernel
theorem d_D_placesIn_29 : decode prog_1_method_29_code 29 = .ok (.invokevirtual 52, 3) := by decide +kernel
theorem d_D_placesIn_32 : decode prog_1_method_29_code 32 = .ok (.lreturn, 1) := by decide +kernel
theorem d_C_placesOf_0 : decode prog_2_method_8_code 0 = .ok (.aload_n 0, 1) := by decide +kernel
theorem d_C_placesOf_1 : decode prog_2_method_8_code 1 = .ok (.iload_n 1, 1) := by decide +kernel
theorem d_C_placesOf_2 : decode prog_2_method_8_code 2 = .ok (.iload_n 2, 1) := by decide +kernel
theorem d_C_placesOf_3 : decode prog_2_method_8_code 3 = .ok (.invokevirtual 33, 3) := by decide +kernel
theorem d_C_placesOf_6 : decode prog_2_method_8_code 6 = .ok (.ifCond .eq 17, 3) := by decide +kernel
theorem d_C_placesOf_9 : decode prog_2_method_8_code 9 = .ok (.aload_n 0, 1) := by decide +kernel
theorem d_C_placesOf_10 : decode prog_2_method_8_code 10 = .ok (.getfield 15, 3) := by decide +kernel
theorem d_C_placesOf_13 : decode prog_2_method_8_code 13 = .ok (.iload_n 1, 1) := by decide +kernel
theorem d_C_placesOf_14 : decode prog_2_method_8_code 14 = .ok (.bipush 16, 2) := by decide +kernel
theorem d_C_placesOf_16 : decode prog_2_method_8_code 16 = .ok (.imul, 1) := by decide +kernel
theorem d_C_placesOf_17 : decode prog_2_method_8_code 17 = .ok (.iload_n 2, 1) := by decide +kernel
theorem d_C_placesOf_18 : decode prog_2_method_8_code 18 = .ok (.iadd, 1) := by decide +kernel
theorem d_C_placesOf_19 : decode prog_2_method_8_code 19 = .ok (.laload, 1) := by decide +kernel
theorem d_C_placesOf_20 : decode prog_2_method_8_code 20 = .ok (.goto 4, 3) := by decide +kernel
theorem d_C_placesOf_23 : decode prog_2_method_8_code 23 = .ok (.lconst 0, 1) := by decide +kernel
theorem d_C_placesOf_24 : decode prog_2_method_8_code 24 = .ok (.lreturn, 1) := by decide +kernel
theorem d_D_count_0 : decode prog_1_method_12_code 0 = .ok (.aload_n 0, 1) := by decide +kernel
theorem d_D_count_1 : decode prog_1_method_12_code 1 = .ok (.getfield 33, 3) := by decide +kernel
theorem d_D_count_4 : decode prog_1_method_12_code 4 = .ok (.invokevirtual 92, 3) := by decide +kernel
theorem d_D_count_7 : decode prog_1_method_12_code 7 = .ok (.ireturn, 1) := by decide +kernel
theorem d_D_terms_0 : decode prog_1_method_13_code 0 = .ok (.aload_n 0, 1) := by decide +kernel
theorem d_D_terms_1 : decode prog_1_method_13_code 1 = .ok (.getfield 33, 3) := by decide +kernel
theorem d_D_terms_4 : decode prog_1_method_13_code 4 = .ok (.iload_n 1, 1) := by decide +kernel
theorem d_D_terms_5 : decode prog_1_method_13_code 5 = .ok (.invokevirtual 124, 3) := by decide +kernel
theorem d_D_terms_8 : decode prog_1_method_13_code 8 = .ok (.ifCond .eq 14, 3) := by decide +kernel
theorem d_D_terms_11 : decode prog_1_method_13_code 11 = .ok (.aload_n 0, 1) := by decide +kernel
theorem d_D_terms_12 : decode prog_1_method_13_code 12 = .ok (.getfield 33, 3) := by decide +kernel
theorem d_D_terms_15 : decode prog_1_method_13_code 15 = .ok (.iload_n 1, 1) := by decide +kernel
theorem d_D_terms_16 : decode prog_1_method_13_code 16 = .ok (.invokevirtual 125, 3) := by decide +kernel
theorem d_D_terms_19 : decode prog_1_method_13_code 19 = .ok (.goto 4, 3) := by decide +kernel
theorem d_D_terms_22 : decode prog_1_method_13_code 22 = .ok (.iconst (-1), 1) := by decide +kernel
theorem d_D_terms_23 : decode prog_1_method_13_code 23 = .ok (.ireturn, 1) := by decide +kernel
theorem d_C_partsOf_0 : decode prog_2_method_9_code 0 = .ok (.aload_n 0, 1) := by decide +kernel
theorem d_C_partsOf_1 : decode prog_2_method_9_code 1 = .ok (.iload_n 1, 1) := by decide +kernel
theorem d_C_partsOf_2 : decode prog_2_method_9_code 2 = .ok (.invokevirtual 29, 3) := by decide +kernel
theorem d_C_partsOf_5 : decode prog_2_method_9_code 5 = .ok (.ifCond .eq 15, 3) := by decide +kernel
theorem d_C_partsOf_8 : decode prog_2_method_9_code 8 = .ok (.aload_n 0, 1) := by decide +kernel
theorem d_C_partsOf_9 : decode prog_2_method_9_code 9 = .ok (.getfield 9, 3) := by decide +kernel
theorem d_C_partsOf_12 : decode prog_2_method_9_code 12 = .ok (.iload_n 1, 1) := by decide +kernel
theorem d_C_partsOf_13 : decode prog_2_method_9_code 13 = .ok (.iaload, 1) := by decide +kernel
theorem d_C_partsOf_14 : decode prog_2_method_9_code 14 = .ok (.invokestatic 37, 3) := by decide +kernel
theorem d_C_partsOf_17 : decode prog_2_method_9_code 17 = .ok (.goto 4, 3) := by decide +kernel
theorem d_C_partsOf_20 : decode prog_2_method_9_code 20 = .ok (.iconst 0, 1) := by decide +kernel
theorem d_C_partsOf_21 : decode prog_2_method_9_code 21 = .ok (.ireturn, 1) := by decide +kernel
theorem d_JI_bitCount_0 : decode prog_9_method_49_code 0 = .ok (.iload_n 0, 1) := by decide +kernel
theorem d_JI_bitCount_1 : decode prog_9_method_49_code 1 = .ok (.iload_n 0, 1) := by decide +kernel
theorem d_JI_bitCount_2 : decode prog_9_method_49_code 2 = .ok (.iconst 1, 1) := by decide +kernel
theorem d_JI_bitCount_3 : decode prog_9_method_49_code 3 = .ok (.iushr, 1) := by decide +kernel
theorem d_JI_bitCount_4 : decode prog_9_method_49_code 4 = .ok (.ldc_w 265, 3) := by decide +kernel
theorem d_JI_bitCount_7 : decode prog_9_method_49_code 7 = .ok (.iand, 1) := by decide +kernel
theorem d_JI_bitCount_8 : decode prog_9_method_49_code 8 = .ok (.isub, 1) := by decide +kernel
theorem d_JI_bitCount_9 : decode prog_9_method_49_code 9 = .ok (.istore_n 0, 1) := by decide +kernel
theorem d_JI_bitCount_10 : decode prog_9_method_49_code 10 = .ok (.iload_n 0, 1) := by decide +kernel
theorem d_JI_bitCount_11 : decode prog_9_method_49_code 11 = .ok (.ldc_w 266, 3) := by decide +kernel
theorem d_JI_bitCount_14 : decode prog_9_method_49_code 14 = .ok (.iand, 1) := by decide +kernel
theorem d_JI_bitCount_15 : decode prog_9_method_49_code 15 = .ok (.iload_n 0, 1) := by decide +kernel
theorem d_JI_bitCount_16 : decode prog_9_method_49_code 16 = .ok (.iconst 2, 1) := by decide +kernel
theorem d_JI_bitCount_17 : decode prog_9_method_49_code 17 = .ok (.iushr, 1) := by decide +kernel
theorem d_JI_bitCount_18 : decode prog_9_method_49_code 18 = .ok (.ldc_w 266, 3) := by decide +kernel
theorem d_JI_bitCount_21 : decode prog_9_method_49_code 21 = .ok (.iand, 1) := by decide +kernel
theorem d_JI_bitCount_22 : decode prog_9_method_49_code 22 = .ok (.iadd, 1) := by decide +kernel
theorem d_JI_bitCount_23 : decode prog_9_method_49_code 23 = .ok (.istore_n 0, 1) := by decide +kernel
theorem d_JI_bitCount_24 : decode prog_9_method_49_code 24 = .ok (.iload_n 0, 1) := by decide +kernel
theorem d_JI_bitCount_25 : decode prog_9_method_49_code 25 = .ok (.iload_n 0, 1) := by decide +kernel
theorem d_JI_bitCount_26 : decode prog_9_method_49_code 26 = .ok (.iconst 4, 1) := by decide +kernel
theorem d_JI_bitCount_27 : decode prog_9_method_49_code 27 = .ok (.iushr, 1) := by decide +kernel
theorem d_JI_bitCount_28 : decode prog_9_method_49_code 28 = .ok (.iadd, 1) := by decide +kernel
theorem d_JI_bitCount_29 : decode prog_9_method_49_code 29 = .ok (.ldc_w 267, 3) := by decide +kernel
theorem d_JI_bitCount_32 : decode prog_9_method_49_code 32 = .ok (.iand, 1) := by decide +kernel
theorem d_JI_bitCount_33 : decode prog_9_method_49_code 33 = .ok (.istore_n 0, 1) := by decide +kernel
theorem d_JI_bitCount_34 : decode prog_9_method_49_code 34 = .ok (.iload_n 0, 1) := by decide +kernel
theorem d_JI_bitCount_35 : decode prog_9_method_49_code 35 = .ok (.iload_n 0, 1) := by decide +kernel
theorem d_JI_bitCount_36 : decode prog_9_method_49_code 36 = .ok (.bipush 8, 2) := by decide +kernel
theorem d_JI_bitCount_38 : decode prog_9_method_49_code 38 = .ok (.iushr, 1) := by decide +kernel
theorem d_JI_bitCount_39 : decode prog_9_method_49_code 39 = .ok (.iadd, 1) := by decide +kernel
theorem d_JI_bitCount_40 : decode prog_9_method_49_code 40 = .ok (.istore_n 0, 1) := by decide +kernel
theorem d_JI_bitCount_41 : decode prog_9_method_49_code 41 = .ok (.iload_n 0, 1) := by decide +kernel
theorem d_JI_bitCount_42 : decode prog_9_method_49_code 42 = .ok (.iload_n 0, 1) := by decide +kernel
theorem d_JI_bitCount_43 : decode prog_9_method_49_code 43 = .ok (.bipush 16, 2) := by decide +kernel
theorem d_JI_bitCount_45 : decode prog_9_method_49_code 45 = .ok (.iushr, 1) := by decide +kernel
theorem d_JI_bitCount_46 : decode prog_9_method_49_code 46 = .ok (.iadd, 1) := by decide +kernel
theorem d_JI_bitCount_47 : decode prog_9_method_49_code 47 = .ok (.istore_n 0, 1) := by decide +kernel
theorem d_JI_bitCount_48 : decode prog_9_method_49_code 48 = .ok (.iload_n 0, 1) := by decide +kernel
theorem d_JI_bitCount_49 : decode prog_9_method_49_code 49 = .ok (.bipush 63, 2) := by decide +kernel
theorem d_JI_bitCount_51 : decode prog_9_method_49_code 51 = .ok (.iand, 1) := by decide +kernel
theorem d_JI_bitCount_52 : decode prog_9_method_49_code 52 = .ok (.ireturn, 1) := by decide +kernel
theorem d_D_part_0 : decode prog_1_method_14_code 0 = .ok (.aload_n 0, 1) := by decide +kernel
theorem d_D_part_1 : decode prog_1_method_14_code 1 = .ok (.getfield 33, 3) := by decide +kernel
theorem d_D_part_4 : decode prog_1_method_14_code 4 = .ok (.iload_n 1, 1) := by decide +kernel
theorem d_D_part_5 : decode prog_1_method_14_code 5 = .ok (.iload_n 2, 1) := by decide +kernel
theorem d_D_part_6 : decode prog_1_method_14_code 6 = .ok (.invokevirtual 128, 3) := by decide +kernel
theorem d_D_part_9 : decode prog_1_method_14_code 9 = .ok (.istore 4, 2) := by decide +kernel
theorem d_D_part_11 : decode prog_1_method_14_code 11 = .ok (.iload 4, 2) := by decide +kernel
theorem d_D_part_13 : decode prog_1_method_14_code 13 = .ok (.iconst (-1), 1) := by decide +kernel
theorem d_D_part_14 : decode prog_1_method_14_code 14 = .ok (.if_icmp .ne 5, 3) := by decide +kernel
theorem d_D_part_17 : decode prog_1_method_14_code 17 = .ok (.iconst (-1), 1) := by decide +kernel
theorem d_D_part_18 : decode prog_1_method_14_code 18 = .ok (.ireturn, 1) := by decide +kernel
theorem d_D_part_19 : decode prog_1_method_14_code 19 = .ok (.aload_n 0, 1) := by decide +kernel
theorem d_D_part_20 : decode prog_1_method_14_code 20 = .ok (.iload 4, 2) := by decide +kernel
theorem d_D_part_22 : decode prog_1_method_14_code 22 = .ok (.aload_n 0, 1) := by decide +kernel
theorem d_D_part_23 : decode prog_1_method_14_code 23 = .ok (.getfield 33, 3) := by decide +kernel
theorem d_D_part_26 : decode prog_1_method_14_code 26 = .ok (.iload_n 1, 1) := by decide +kernel
theorem d_D_part_27 : decode prog_1_method_14_code 27 = .ok (.iload 4, 2) := by decide +kernel
theorem d_D_part_29 : decode prog_1_method_14_code 29 = .ok (.invokevirtual 132, 3) := by decide +kernel
theorem d_D_part_32 : decode prog_1_method_14_code 32 = .ok (.iload_n 3, 1) := by decide +kernel
theorem d_D_part_33 : decode prog_1_method_14_code 33 = .ok (.invokevirtual 77, 3) := by decide +kernel
theorem d_D_part_36 : decode prog_1_method_14_code 36 = .ok (.ireturn, 1) := by decide +kernel
theorem d_C_nameAt_0 : decode prog_2_method_10_code 0 = .ok (.iconst 0, 1) := by decide +kernel
theorem d_C_nameAt_1 : decode prog_2_method_10_code 1 = .ok (.istore_n 3, 1) := by decide +kernel
theorem d_C_nameAt_2 : decode prog_2_method_10_code 2 = .ok (.iload_n 3, 1) := by decide +kernel
theorem d_C_nameAt_3 : decode prog_2_method_10_code 3 = .ok (.bipush 16, 2) := by decide +kernel
theorem d_C_nameAt_5 : decode prog_2_method_10_code 5 = .ok (.if_icmp .ge 30, 3) := by decide +kernel
theorem d_C_nameAt_8 : decode prog_2_method_10_code 8 = .ok (.aload_n 0, 1) := by decide +kernel
theorem d_C_nameAt_9 : decode prog_2_method_10_code 9 = .ok (.iload_n 1, 1) := by decide +kernel
theorem d_C_nameAt_10 : decode prog_2_method_10_code 10 = .ok (.iload_n 3, 1) := by decide +kernel
theorem d_C_nameAt_11 : decode prog_2_method_10_code 11 = .ok (.invokevirtual 33, 3) := by decide +kernel
theorem d_C_nameAt_14 : decode prog_2_method_10_code 14 = .ok (.ifCond .eq 15, 3) := by decide +kernel
theorem d_C_nameAt_17 : decode prog_2_method_10_code 17 = .ok (.aload_n 0, 1) := by decide +kernel
theorem d_C_nameAt_18 : decode prog_2_method_10_code 18 = .ok (.iload_n 1, 1) := by decide +kernel
theorem d_C_nameAt_19 : decode prog_2_method_10_code 19 = .ok (.iload_n 3, 1) := by decide +kernel
theorem d_C_nameAt_20 : decode prog_2_method_10_code 20 = .ok (.invokevirtual 43, 3) := by decide +kernel
theorem d_C_nameAt_23 : decode prog_2_method_10_code 23 = .ok (.iload_n 2, 1) := by decide +kernel
theorem d_C_nameAt_24 : decode prog_2_method_10_code 24 = .ok (.if_icmp .ne 5, 3) := by decide +kernel
theorem d_C_nameAt_27 : decode prog_2_method_10_code 27 = .ok (.iload_n 3, 1) := by decide +kernel
theorem d_C_nameAt_28 : decode prog_2_method_10_code 28 = .ok (.ireturn, 1) := by decide +kernel
theorem d_C_nameAt_29 : decode prog_2_method_10_code 29 = .ok (.iinc 3 1, 3) := by decide +kernel
theorem d_C_nameAt_32 : decode prog_2_method_10_code 32 = .ok (.goto (-30), 3) := by decide +kernel
theorem d_C_nameAt_35 : decode prog_2_method_10_code 35 = .ok (.iconst (-1), 1) := by decide +kernel
theorem d_C_nameAt_36 : decode prog_2_method_10_code 36 = .ok (.ireturn, 1) := by decide +kernel
theorem d_C_indexOf_0 : decode prog_2_method_11_code 0 = .ok (.aload_n 0, 1) := by decide +kernel
theorem d_C_indexOf_1 : decode prog_2_method_11_code 1 = .ok (.iload_n 1, 1) := by decide +kernel
theorem d_C_indexOf_2 : decode prog_2_method_11_code 2 = .ok (.iload_n 2, 1) := by decide +kernel
theorem d_C_indexOf_3 : decode prog_2_method_11_code 3 = .ok (.invokevirtual 33, 3) := by decide +kernel
theorem d_C_indexOf_6 : decode prog_2_method_11_code 6 = .ok (.ifCond .eq 21, 3) := by decide +kernel
theorem d_C_indexOf_9 : decode prog_2_method_11_code 9 = .ok (.aload_n 0, 1) := by decide +kernel
theorem d_C_indexOf_10 : decode prog_2_method_11_code 10 = .ok (.getfield 9, 3) := by decide +kernel
theorem d_C_indexOf_13 : decode prog_2_method_11_code 13 = .ok (.iload_n 1, 1) := by decide +kernel
theorem d_C_indexOf_14 : decode prog_2_method_11_code 14 = .ok (.iaload, 1) := by decide +kernel
theorem d_C_indexOf_15 : decode prog_2_method_11_code 15 = .ok (.iconst 1, 1) := by decide +kernel
theorem d_C_indexOf_16 : decode prog_2_method_11_code 16 = .ok (.iload_n 2, 1) := by decide +kernel
theorem d_C_indexOf_17 : decode prog_2_method_11_code 17 = .ok (.ishl, 1) := by decide +kernel
theorem d_C_indexOf_18 : decode prog_2_method_11_code 18 = .ok (.iconst 1, 1) := by decide +kernel
theorem d_C_indexOf_19 : decode prog_2_method_11_code 19 = .ok (.isub, 1) := by decide +kernel
theorem d_C_indexOf_20 : decode prog_2_method_11_code 20 = .ok (.iand, 1) := by decide +kernel
theorem d_C_indexOf_21 : decode prog_2_method_11_code 21 = .ok (.invokestatic 37, 3) := by decide +kernel
theorem d_C_indexOf_24 : decode prog_2_method_11_code 24 = .ok (.goto 4, 3) := by decide +kernel
theorem d_C_indexOf_27 : decode prog_2_method_11_code 27 = .ok (.iconst (-1), 1) := by decide +kernel
theorem d_C_indexOf_28 : decode prog_2_method_11_code 28 = .ok (.ireturn, 1) := by decide +kernel
theorem d_D_partSet_0 : decode prog_1_method_15_code 0 = .ok (.aload_n 0, 1) := by decide +kernel
theorem d_D_partSet_1 : decode prog_1_method_15_code 1 = .ok (.getfield 33, 3) := by decide +kernel
theorem d_D_partSet_4 : decode prog_1_method_15_code 4 = .ok (.iload_n 1, 1) := by decide +kernel
theorem d_D_partSet_5 : decode prog_1_method_15_code 5 = .ok (.iload_n 2, 1) := by decide +kernel
theorem d_D_partSet_6 : decode prog_1_method_15_code 6 = .ok (.invokevirtual 128, 3) := by decide +kernel
theorem d_D_partSet_9 : decode prog_1_method_15_code 9 = .ok (.istore_n 3, 1) := by decide +kernel
theorem d_D_partSet_10 : decode prog_1_method_15_code 10 = .ok (.iload_n 3, 1) := by decide +kernel
theorem d_D_partSet_11 : decode prog_1_method_15_code 11 = .ok (.iconst (-1), 1) := by decide +kernel
theorem d_D_partSet_12 : decode prog_1_method_15_code 12 = .ok (.if_icmp .ne 5, 3) := by decide +kernel
theorem d_D_partSet_15 : decode prog_1_method_15_code 15 = .ok (.lconst 0, 1) := by decide +kernel
theorem d_D_partSet_16 : decode prog_1_method_15_code 16 = .ok (.lreturn, 1) := by decide +kernel
theorem d_D_partSet_17 : decode prog_1_method_15_code 17 = .ok (.aload_n 0, 1) := by decide +kernel
theorem d_D_partSet_18 : decode prog_1_method_15_code 18 = .ok (.getfield 12, 3) := by decide +kernel
theorem d_D_partSet_21 : decode prog_1_method_15_code 21 = .ok (.iload_n 3, 1) := by decide +kernel
theorem d_D_partSet_22 : decode prog_1_method_15_code 22 = .ok (.aload_n 0, 1) := by decide +kernel
theorem d_D_partSet_23 : decode prog_1_method_15_code 23 = .ok (.getfield 33, 3) := by decide +kernel
theorem d_D_partSet_26 : decode prog_1_method_15_code 26 = .ok (.iload_n 1, 1) := by decide +kernel
theorem d_D_partSet_27 : decode prog_1_method_15_code 27 = .ok (.iload_n 3, 1) := by decide +kernel
theorem d_D_partSet_28 : decode prog_1_method_15_code 28 = .ok (.invokevirtual 132, 3) := by decide +kernel
theorem d_D_partSet_31 : decode prog_1_method_15_code 31 = .ok (.invokevirtual 81, 3) := by decide +kernel
theorem d_D_partSet_34 : decode prog_1_method_15_code 34 = .ok (.lreturn, 1) := by decide +kernel
theorem d_D_choose_0 : decode prog_1_method_16_code 0 = .ok (.aload_n 0, 1) := by decide +kernel
theorem d_D_choose_1 : decode prog_1_method_16_code 1 = .ok (.getfield 19, 3) := by decide +kernel
theorem d_D_choose_4 : decode prog_1_method_16_code 4 = .ok (.iload_n 1, 1) := by decide +kernel
theorem d_D_choose_5 : decode prog_1_method_16_code 5 = .ok (.invokevirtual 67, 3) := by decide +kernel
theorem d_D_choose_8 : decode prog_1_method_16_code 8 = .ok (.ifCond .ne 5, 3) := by decide +kernel
theorem d_D_choose_11 : decode prog_1_method_16_code 11 = .ok (.iconst 0, 1) := by decide +kernel
theorem d_D_choose_12 : decode prog_1_method_16_code 12 = .ok (.ireturn, 1) := by decide +kernel
theorem d_D_choose_13 : decode prog_1_method_16_code 13 = .ok (.aload_n 0, 1) := by decide +kernel
theorem d_D_choose_14 : decode prog_1_method_16_code 14 = .ok (.aload_n 0, 1) := by decide +kernel
theorem d_D_choose_15 : decode prog_1_method_16_code 15 = .ok (.getfield 19, 3) := by decide +kernel
theorem d_D_choose_18 : decode prog_1_method_16_code 18 = .ok (.iload_n 1, 1) := by decide +kernel
theorem d_D_choose_19 : decode prog_1_method_16_code 19 = .ok (.invokevirtual 68, 3) := by decide +kernel
theorem d_D_choose_22 : decode prog_1_method_16_code 22 = .ok (.aload_n 0, 1) := by decide +kernel
theorem d_D_choose_23 : decode prog_1_method_16_code 23 = .ok (.getfield 19, 3) := by decide +kernel
theorem d_D_choose_26 : decode prog_1_method_16_code 26 = .ok (.iload_n 1, 1) := by decide +kernel
theorem d_D_choose_27 : decode prog_1_method_16_code 27 = .ok (.invokevirtual 71, 3) := by decide +kernel
theorem d_D_choose_30 : decode prog_1_method_16_code 30 = .ok (.invokevirtual 134, 3) := by decide +kernel
theorem d_D_choose_33 : decode prog_1_method_16_code 33 = .ok (.iconst 1, 1) := by decide +kernel
theorem d_D_choose_34 : decode prog_1_method_16_code 34 = .ok (.ireturn, 1) := by decide +kernel
theorem d_D_narrowChoice_0 : decode prog_1_method_30_code 0 = .ok (.aload_n 0, 1) := by decide +kernel
theorem d_D_narrowChoice_1 : decode prog_1_method_30_code 1 = .ok (.getfield 12, 3) := by decide +kernel
theorem d_D_narrowChoice_4 : decode prog_1_method_30_code 4 = .ok (.iload_n 1, 1) := by decide +kernel
theorem d_D_narrowChoice_5 : decode prog_1_method_30_code 5 = .ok (.invokevirtual 56, 3) := by decide +kernel
theorem d_D_narrowChoice_8 : decode prog_1_method_30_code 8 = .ok (.ifCond .eq 13, 3) := by decide +kernel
theorem d_D_narrowChoice_11 : decode prog_1_method_30_code 11 = .ok (.aload_n 0, 1) := by decide +kernel
theorem d_D_narrowChoice_12 : decode prog_1_method_30_code 12 = .ok (.getfield 37, 3) := by decide +kernel
theorem d_D_narrowChoice_15 : decode prog_1_method_30_code 15 = .ok (.iload_n 1, 1) := by decide +kernel
theorem d_D_narrowChoice_16 : decode prog_1_method_30_code 16 = .ok (.dup2, 1) := by decide +kernel
theorem d_D_narrowChoice_17 : decode prog_1_method_30_code 17 = .ok (.laload, 1) := by decide +kernel
theorem d_D_narrowChoice_18 : decode prog_1_method_30_code 18 = .ok (.lload_n 2, 1) := by decide +kernel
theorem d_D_narrowChoice_19 : decode prog_1_method_30_code 19 = .ok (.land, 1) := by decide +kernel
theorem d_D_narrowChoice_20 : decode prog_1_method_30_code 20 = .ok (.lastore, 1) := by decide +kernel
theorem d_D_narrowChoice_21 : decode prog_1_method_30_code 21 = .ok (.return_, 1) := by decide +kernel
theorem d_D_forget_0 : decode prog_1_method_17_code 0 = .ok (.iconst 0, 1) := by decide +kernel
theorem d_D_forget_1 : decode prog_1_method_17_code 1 = .ok (.istore_n 1, 1) := by decide +kernel
theorem d_D_forget_2 : decode prog_1_method_17_code 2 = .ok (.iload_n 1, 1) := by decide +kernel
theorem d_D_forget_3 : decode prog_1_method_17_code 3 = .ok (.aload_n 0, 1) := by decide +kernel
theorem d_D_forget_4 : decode prog_1_method_17_code 4 = .ok (.getfield 12, 3) := by decide +kernel
theorem d_D_forget_7 : decode prog_1_method_17_code 7 = .ok (.invokevirtual 119, 3) := by decide +kernel
theorem d_D_forget_10 : decode prog_1_method_17_code 10 = .ok (.if_icmp .ge 23, 3) := by decide +kernel
theorem d_D_forget_13 : decode prog_1_method_17_code 13 = .ok (.aload_n 0, 1) := by decide +kernel
theorem d_D_forget_14 : decode prog_1_method_17_code 14 = .ok (.getfield 37, 3) := by decide +kernel
theorem d_D_forget_17 : decode prog_1_method_17_code 17 = .ok (.iload_n 1, 1) := by decide +kernel
theorem d_D_forget_18 : decode prog_1_method_17_code 18 = .ok (.aload_n 0, 1) := by decide +kernel
theorem d_D_forget_19 : decode prog_1_method_17_code 19 = .ok (.getfield 12, 3) := by decide +kernel
theorem d_D_forget_22 : decode prog_1_method_17_code 22 = .ok (.iload_n 1, 1) := by decide +kernel
theorem d_D_forget_23 : decode prog_1_method_17_code 23 = .ok (.invokevirtual 52, 3) := by decide +kernel
theorem d_D_forget_26 : decode prog_1_method_17_code 26 = .ok (.lastore, 1) := by decide +kernel
theorem d_D_forget_27 : decode prog_1_method_17_code 27 = .ok (.iinc 1 1, 3) := by decide +kernel
theorem d_D_forget_30 : decode prog_1_method_17_code 30 = .ok (.goto (-28), 3) := by decide +kernel
theorem d_D_forget_33 : decode prog_1_method_17_code 33 = .ok (.return_, 1) := by decide +kernel
theorem d_D_state_0 : decode prog_1_method_18_code 0 = .ok (.aload_n 0, 1) := by decide +kernel
theorem d_D_state_1 : decode prog_1_method_18_code 1 = .ok (.getfield 33, 3) := by decide +kernel
theorem d_D_state_4 : decode prog_1_method_18_code 4 = .ok (.iload_n 1, 1) := by decide +kernel
theorem d_D_state_5 : decode prog_1_method_18_code 5 = .ok (.invokevirtual 124, 3) := by decide +kernel
theorem d_D_state_8 : decode prog_1_method_18_code 8 = .ok (.ifCond .eq 11, 3) := by decide +kernel
theorem d_D_state_11 : decode prog_1_method_18_code 11 = .ok (.aload_n 0, 1) := by decide +kernel
theorem d_D_state_12 : decode prog_1_method_18_code 12 = .ok (.iload_n 1, 1) := by decide +kernel
theorem d_D_state_13 : decode prog_1_method_18_code 13 = .ok (.invokevirtual 138, 3) := by decide +kernel
theorem d_D_state_16 : decode prog_1_method_18_code 16 = .ok (.goto 5, 3) := by decide +kernel
theorem d_D_state_19 : decode prog_1_method_18_code 19 = .ok (.bipush (-2), 2) := by decide +kernel
theorem d_D_state_21 : decode prog_1_method_18_code 21 = .ok (.ireturn, 1) := by decide +kernel
theorem d_D_stateOf_0 : decode prog_1_method_32_code 0 = .ok (.iconst 0, 1) := by decide +kernel
theorem d_D_stateOf_1 : decode prog_1_method_32_code 1 = .ok (.istore_n 2, 1) := by decide +kernel
theorem d_D_stateOf_2 : decode prog_1_method_32_code 2 = .ok (.iconst 0, 1) := by decide +kernel
theorem d_D_stateOf_3 : decode prog_1_method_32_code 3 = .ok (.istore_n 3, 1) := by decide +kernel
theorem d_D_stateOf_4 : decode prog_1_method_32_code 4 = .ok (.iload_n 3, 1) := by decide +kernel
theorem d_D_stateOf_5 : decode prog_1_method_32_code 5 = .ok (.aload_n 0, 1) := by decide +kernel
theorem d_D_stateOf_6 : decode prog_1_method_32_code 6 = .ok (.getfield 12, 3) := by decide +kernel
theorem d_D_stateOf_9 : decode prog_1_method_32_code 9 = .ok (.invokevirtual 119, 3) := by decide +kernel
theorem d_D_stateOf_12 : decode prog_1_method_32_code 12 = .ok (.if_icmp .ge 45, 3) := by decide +kernel
theorem d_D_stateOf_15 : decode prog_1_method_32_code 15 = .ok (.aload_n 0, 1) := by decide +kernel
theorem d_D_stateOf_16 : decode prog_1_method_32_code 16 = .ok (.getfield 33, 3) := by decide +kernel
theorem d_D_stateOf_19 : decode prog_1_method_32_code 19 = .ok (.iload_n 1, 1) := by decide +kernel
theorem d_D_stateOf_20 : decode prog_1_method_32_code 20 = .ok (.iload_n 3, 1) := by decide +kernel
theorem d_D_stateOf_21 : decode prog_1_method_32_code 21 = .ok (.invokevirtual 116, 3) := by decide +kernel
theorem d_D_stateOf_24 : decode prog_1_method_32_code 24 = .ok (.ifCond .eq 27, 3) := by decide +kernel
theorem d_D_stateOf_27 : decode prog_1_method_32_code 27 = .ok (.aload_n 0, 1) := by decide +kernel
theorem d_D_stateOf_28 : decode prog_1_method_32_code 28 = .ok (.iload_n 1, 1) := by decide +kernel
theorem d_D_stateOf_29 : decode prog_1_method_32_code 29 = .ok (.iload_n 3, 1) := by decide +kernel
theorem d_D_stateOf_30 : decode prog_1_method_32_code 30 = .ok (.invokevirtual 207, 3) := by decide +kernel
theorem d_D_stateOf_33 : decode prog_1_method_32_code 33 = .ok (.istore 4, 2) := by decide +kernel
theorem d_D_stateOf_35 : decode prog_1_method_32_code 35 = .ok (.iload 4, 2) := by decide +kernel
theorem d_D_stateOf_37 : decode prog_1_method_32_code 37 = .ok (.iconst (-1), 1) := by decide +kernel
theorem d_D_stateOf_38 : decode prog_1_method_32_code 38 = .ok (.if_icmp .ne 5, 3) := by decide +kernel
theorem d_D_stateOf_41 : decode prog_1_method_32_code 41 = .ok (.iconst (-1), 1) := by decide +kernel
theorem d_D_stateOf_42 : decode prog_1_method_32_code 42 = .ok (.ireturn, 1) := by decide +kernel
theorem d_D_stateOf_43 : decode prog_1_method_32_code 43 = .ok (.iload 4, 2) := by decide +kernel
theorem d_D_stateOf_45 : decode prog_1_method_32_code 45 = .ok (.ifCond .ne 6, 3) := by decide +kernel
theorem d_D_stateOf_48 : decode prog_1_method_32_code 48 = .ok (.iinc 2 1, 3) := by decide +kernel
theorem d_D_stateOf_51 : decode prog_1_method_32_code 51 = .ok (.iinc 3 1, 3) := by decide +kernel
theorem d_D_stateOf_54 : decode prog_1_method_32_code 54 = .ok (.goto (-50), 3) := by decide +kernel
theorem d_D_stateOf_57 : decode prog_1_method_32_code 57 = .ok (.iload_n 2, 1) := by decide +kernel
theorem d_D_stateOf_58 : decode prog_1_method_32_code 58 = .ok (.ifCond .ne 5, 3) := by decide +kernel
theorem d_D_stateOf_61 : decode prog_1_method_32_code 61 = .ok (.iconst 1, 1) := by decide +kernel
theorem d_D_stateOf_62 : decode prog_1_method_32_code 62 = .ok (.ireturn, 1) := by decide +kernel
theorem d_D_stateOf_63 : decode prog_1_method_32_code 63 = .ok (.iload_n 2, 1) := by decide +kernel
theorem d_D_stateOf_64 : decode prog_1_method_32_code 64 = .ok (.iconst 1, 1) := by decide +kernel
theorem d_D_stateOf_65 : decode prog_1_method_32_code 65 = .ok (.if_icmp .ne 7, 3) := by decide +kernel
theorem d_D_stateOf_68 : decode prog_1_method_32_code 68 = .ok (.iconst 2, 1) := by decide +kernel
theorem d_D_stateOf_69 : decode prog_1_method_32_code 69 = .ok (.goto 4, 3) := by decide +kernel
theorem d_D_stateOf_72 : decode prog_1_method_32_code 72 = .ok (.iconst 0, 1) := by decide +kernel
theorem d_D_stateOf_73 : decode prog_1_method_32_code 73 = .ok (.ireturn, 1) := by decide +kernel
theorem d_D_relationToChoice_0 : decode prog_1_method_31_code 0 = .ok (.aload_n 0, 1) := by decide +kernel
theorem d_D_relationToChoice_1 : decode prog_1_method_31_code 1 = .ok (.getfield 12, 3) := by decide +kernel
theorem d_D_relationToChoice_4 : decode prog_1_method_31_code 4 = .ok (.iload_n 2, 1) := by decide +kernel
theorem d_D_relationToChoice_5 : decode prog_1_method_31_code 5 = .ok (.invokevirtual 56, 3) := by decide +kernel
theorem d_D_relationToChoice_8 : decode prog_1_method_31_code 8 = .ok (.ifCond .eq 24, 3) := by decide +kernel
theorem d_D_relationToChoice_11 : decode prog_1_method_31_code 11 = .ok (.aload_n 0, 1) := by decide +kernel
theorem d_D_relationToChoice_12 : decode prog_1_method_31_code 12 = .ok (.getfield 37, 3) := by decide +kernel
theorem d_D_relationToChoice_15 : decode prog_1_method_31_code 15 = .ok (.iload_n 2, 1) := by decide +kernel
theorem d_D_relationToChoice_16 : decode prog_1_method_31_code 16 = .ok (.laload, 1) := by decide +kernel
theorem d_D_relationToChoice_17 : decode prog_1_method_31_code 17 = .ok (.aload_n 0, 1) := by decide +kernel
theorem d_D_relationToChoice_18 : decode prog_1_method_31_code 18 = .ok (.getfield 33, 3) := by decide +kernel
theorem d_D_relationToChoice_21 : decode prog_1_method_31_code 21 = .ok (.iload_n 1, 1) := by decide +kernel
theorem d_D_relationToChoice_22 : decode prog_1_method_31_code 22 = .ok (.iload_n 2, 1) := by decide +kernel
theorem d_D_relationToChoice_23 : decode prog_1_method_31_code 23 = .ok (.invokevirtual 132, 3) := by decide +kernel
theorem d_D_relationToChoice_26 : decode prog_1_method_31_code 26 = .ok (.invokestatic 73, 3) := by decide +kernel
theorem d_D_relationToChoice_29 : decode prog_1_method_31_code 29 = .ok (.goto 4, 3) := by decide +kernel
theorem d_D_relationToChoice_32 : decode prog_1_method_31_code 32 = .ok (.iconst 0, 1) := by decide +kernel
theorem d_D_relationToChoice_33 : decode prog_1_method_31_code 33 = .ok (.ireturn, 1) := by decide +kernel
theorem d_D_forced_0 : decode prog_1_method_19_code 0 = .ok (.aload_n 0, 1) := by decide +kernel
theorem d_D_forced_1 : decode prog_1_method_19_code 1 = .ok (.getfield 33, 3) := by decide +kernel
theorem d_D_forced_4 : decode prog_1_method_19_code 4 = .ok (.iload_n 1, 1) := by decide +kernel
theorem d_D_forced_5 : decode prog_1_method_19_code 5 = .ok (.invokevirtual 124, 3) := by decide +kernel
theorem d_D_forced_8 : decode prog_1_method_19_code 8 = .ok (.ifCond .eq 12, 3) := by decide +kernel
theorem d_D_forced_11 : decode prog_1_method_19_code 11 = .ok (.aload_n 0, 1) := by decide +kernel
theorem d_D_forced_12 : decode prog_1_method_19_code 12 = .ok (.iload_n 1, 1) := by decide +kernel
theorem d_D_forced_13 : decode prog_1_method_19_code 13 = .ok (.invokevirtual 138, 3) := by decide +kernel
theorem d_D_forced_16 : decode prog_1_method_19_code 16 = .ok (.iconst 2, 1) := by decide +kernel
theorem d_D_forced_17 : decode prog_1_method_19_code 17 = .ok (.if_icmp .eq 5, 3) := by decide +kernel
theorem d_D_forced_20 : decode prog_1_method_19_code 20 = .ok (.iconst (-1), 1) := by decide +kernel
theorem d_D_forced_21 : decode prog_1_method_19_code 21 = .ok (.ireturn, 1) := by decide +kernel
theorem d_D_forced_22 : decode prog_1_method_19_code 22 = .ok (.aload_n 0, 1) := by decide +kernel
theorem d_D_forced_23 : decode prog_1_method_19_code 23 = .ok (.getfield 33, 3) := by decide +kernel
theorem d_D_forced_26 : decode prog_1_method_19_code 26 = .ok (.iload_n 1, 1) := by decide +kernel
theorem d_D_forced_27 : decode prog_1_method_19_code 27 = .ok (.aload_n 0, 1) := by decide +kernel
theorem d_D_forced_28 : decode prog_1_method_19_code 28 = .ok (.iload_n 1, 1) := by decide +kernel
theorem d_D_forced_29 : decode prog_1_method_19_code 29 = .ok (.invokevirtual 141, 3) := by decide +kernel
theorem d_D_forced_32 : decode prog_1_method_19_code 32 = .ok (.invokevirtual 144, 3) := by decide +kernel
theorem d_D_forced_35 : decode prog_1_method_19_code 35 = .ok (.ireturn, 1) := by decide +kernel
theorem d_D_openName_0 : decode prog_1_method_33_code 0 = .ok (.iconst 0, 1) := by decide +kernel
theorem d_D_openName_1 : decode prog_1_method_33_code 1 = .ok (.istore_n 2, 1) := by decide +kernel
theorem d_D_openName_2 : decode prog_1_method_33_code 2 = .ok (.iload_n 2, 1) := by decide +kernel
theorem d_D_openName_3 : decode prog_1_method_33_code 3 = .ok (.aload_n 0, 1) := by decide +kernel
theorem d_D_openName_4 : decode prog_1_method_33_code 4 = .ok (.getfield 12, 3) := by decide +kernel
theorem d_D_openName_7 : decode prog_1_method_33_code 7 = .ok (.invokevirtual 119, 3) := by decide +kernel
theorem d_D_openName_10 : decode prog_1_method_33_code 10 = .ok (.if_icmp .ge 32, 3) := by decide +kernel
theorem d_D_openName_13 : decode prog_1_method_33_code 13 = .ok (.aload_n 0, 1) := by decide +kernel
theorem d_D_openName_14 : decode prog_1_method_33_code 14 = .ok (.getfield 33, 3) := by decide +kernel
theorem d_D_openName_17 : decode prog_1_method_33_code 17 = .ok (.iload_n 1, 1) := by decide +kernel
theorem d_D_openName_18 : decode prog_1_method_33_code 18 = .ok (.iload_n 2, 1) := by decide +kernel
theorem d_D_openName_19 : decode prog_1_method_33_code 19 = .ok (.invokevirtual 116, 3) := by decide +kernel
theorem d_D_openName_22 : decode prog_1_method_33_code 22 = .ok (.ifCond .eq 14, 3) := by decide +kernel
theorem d_D_openName_25 : decode prog_1_method_33_code 25 = .ok (.aload_n 0, 1) := by decide +kernel
theorem d_D_openName_26 : decode prog_1_method_33_code 26 = .ok (.iload_n 1, 1) := by decide +kernel
theorem d_D_openName_27 : decode prog_1_method_33_code 27 = .ok (.iload_n 2, 1) := by decide +kernel
theorem d_D_openName_28 : decode prog_1_method_33_code 28 = .ok (.invokevirtual 207, 3) := by decide +kernel
theorem d_D_openName_31 : decode prog_1_method_33_code 31 = .ok (.ifCond .ne 5, 3) := by decide +kernel
theorem d_D_openName_34 : decode prog_1_method_33_code 34 = .ok (.iload_n 2, 1) := by decide +kernel
theorem d_D_openName_35 : decode prog_1_method_33_code 35 = .ok (.ireturn, 1) := by decide +kernel
theorem d_D_openName_36 : decode prog_1_method_33_code 36 = .ok (.iinc 2 1, 3) := by decide +kernel
theorem d_D_openName_39 : decode prog_1_method_33_code 39 = .ok (.goto (-37), 3) := by decide +kernel
theorem d_D_openName_42 : decode prog_1_method_33_code 42 = .ok (.iconst (-1), 1) := by decide +kernel
theorem d_D_openName_43 : decode prog_1_method_33_code 43 = .ok (.ireturn, 1) := by decide +kernel
theorem d_D_spread_0 : decode prog_1_method_20_code 0 = .ok (.iconst 1, 1) := by decide +kernel
theorem d_D_spread_1 : decode prog_1_method_20_code 1 = .ok (.istore_n 1, 1) := by decide +kernel
theorem d_D_spread_2 : decode prog_1_method_20_code 2 = .ok (.iconst 0, 1) := by decide +kernel
theorem d_D_spread_3 : decode prog_1_method_20_code 3 = .ok (.istore_n 2, 1) := by decide +kernel
theorem d_D_spread_4 : decode prog_1_method_20_code 4 = .ok (.iload_n 1, 1) := by decide +kernel
theorem d_D_spread_5 : decode prog_1_method_20_code 5 = .ok (.ifCond .eq 68, 3) := by decide +kernel
theorem d_D_spread_8 : decode prog_1_method_20_code 8 = .ok (.iload_n 2, 1) := by decide +kernel
theorem d_D_spread_9 : decode prog_1_method_20_code 9 = .ok (.sipush 785, 3) := by decide +kernel
theorem d_D_spread_12 : decode prog_1_method_20_code 12 = .ok (.if_icmp .ge 61, 3) := by decide +kernel
theorem d_D_spread_15 : decode prog_1_method_20_code 15 = .ok (.iconst 0, 1) := by decide +kernel
theorem d_D_spread_16 : decode prog_1_method_20_code 16 = .ok (.istore_n 1, 1) := by decide +kernel
theorem d_D_spread_17 : decode prog_1_method_20_code 17 = .ok (.iconst 0, 1) := by decide +kernel
theorem d_D_spread_18 : decode prog_1_method_20_code 18 = .ok (.istore_n 3, 1) := by decide +kernel
theorem d_D_spread_19 : decode prog_1_method_20_code 19 = .ok (.iload_n 3, 1) := by decide +kernel
theorem d_D_spread_20 : decode prog_1_method_20_code 20 = .ok (.aload_n 0, 1) := by decide +kernel
theorem d_D_spread_21 : decode prog_1_method_20_code 21 = .ok (.getfield 33, 3) := by decide +kernel
theorem d_D_spread_24 : decode prog_1_method_20_code 24 = .ok (.invokevirtual 92, 3) := by decide +kernel
theorem d_D_spread_27 : decode prog_1_method_20_code 27 = .ok (.if_icmp .ge 40, 3) := by decide +kernel
theorem d_D_spread_30 : decode prog_1_method_20_code 30 = .ok (.aload_n 0, 1) := by decide +kernel
theorem d_D_spread_31 : decode prog_1_method_20_code 31 = .ok (.iload_n 3, 1) := by decide +kernel
theorem d_D_spread_32 : decode prog_1_method_20_code 32 = .ok (.invokevirtual 138, 3) := by decide +kernel
theorem d_D_spread_35 : decode prog_1_method_20_code 35 = .ok (.istore 4, 2) := by decide +kernel
theorem d_D_spread_37 : decode prog_1_method_20_code 37 = .ok (.iload 4, 2) := by decide +kernel
theorem d_D_spread_39 : decode prog_1_method_20_code 39 = .ok (.iconst 1, 1) := by decide +kernel
theorem d_D_spread_40 : decode prog_1_method_20_code 40 = .ok (.if_icmp .ne 8, 3) := by decide +kernel
theorem d_D_spread_43 : decode prog_1_method_20_code 43 = .ok (.aload_n 0, 1) := by decide +kernel
theorem d_D_spread_44 : decode prog_1_method_20_code 44 = .ok (.invokevirtual 147, 3) := by decide +kernel
theorem d_D_spread_47 : decode prog_1_method_20_code 47 = .ok (.ireturn, 1) := by decide +kernel
theorem d_D_spread_48 : decode prog_1_method_20_code 48 = .ok (.iload 4, 2) := by decide +kernel
theorem d_D_spread_50 : decode prog_1_method_20_code 50 = .ok (.iconst 2, 1) := by decide +kernel
theorem d_D_spread_51 : decode prog_1_method_20_code 51 = .ok (.if_icmp .ne 10, 3) := by decide +kernel
theorem d_D_spread_54 : decode prog_1_method_20_code 54 = .ok (.aload_n 0, 1) := by decide +kernel
theorem d_D_spread_55 : decode prog_1_method_20_code 55 = .ok (.iload_n 3, 1) := by decide +kernel
theorem d_D_spread_56 : decode prog_1_method_20_code 56 = .ok (.invokevirtual 150, 3) := by decide +kernel
theorem d_D_spread_59 : decode prog_1_method_20_code 59 = .ok (.iconst 1, 1) := by decide +kernel
theorem d_D_spread_60 : decode prog_1_method_20_code 60 = .ok (.istore_n 1, 1) := by decide +kernel
theorem d_D_spread_61 : decode prog_1_method_20_code 61 = .ok (.iinc 3 1, 3) := by decide +kernel
theorem d_D_spread_64 : decode prog_1_method_20_code 64 = .ok (.goto (-45), 3) := by decide +kernel
theorem d_D_spread_67 : decode prog_1_method_20_code 67 = .ok (.iinc 2 1, 3) := by decide +kernel
theorem d_D_spread_70 : decode prog_1_method_20_code 70 = .ok (.goto (-66), 3) := by decide +kernel
theorem d_D_spread_73 : decode prog_1_method_20_code 73 = .ok (.iconst (-1), 1) := by decide +kernel
theorem d_D_spread_74 : decode prog_1_method_20_code 74 = .ok (.ireturn, 1) := by decide +kernel
theorem d_D_firstKept_0 : decode prog_1_method_35_code 0 = .ok (.iconst 0, 1) := by decide +kernel
theorem d_D_firstKept_1 : decode prog_1_method_35_code 1 = .ok (.istore_n 1, 1) := by decide +kernel
theorem d_D_firstKept_2 : decode prog_1_method_35_code 2 = .ok (.iload_n 1, 1) := by decide +kernel
theorem d_D_firstKept_3 : decode prog_1_method_35_code 3 = .ok (.aload_n 0, 1) := by decide +kernel
theorem d_D_firstKept_4 : decode prog_1_method_35_code 4 = .ok (.getfield 33, 3) := by decide +kernel
theorem d_D_firstKept_7 : decode prog_1_method_35_code 7 = .ok (.invokevirtual 92, 3) := by decide +kernel
theorem d_D_firstKept_10 : decode prog_1_method_35_code 10 = .ok (.if_icmp .ge 20, 3) := by decide +kernel
theorem d_D_firstKept_13 : decode prog_1_method_35_code 13 = .ok (.aload_n 0, 1) := by decide +kernel
theorem d_D_firstKept_14 : decode prog_1_method_35_code 14 = .ok (.iload_n 1, 1) := by decide +kernel
theorem d_D_firstKept_15 : decode prog_1_method_35_code 15 = .ok (.invokevirtual 138, 3) := by decide +kernel
theorem d_D_firstKept_18 : decode prog_1_method_35_code 18 = .ok (.iconst 1, 1) := by decide +kernel
theorem d_D_firstKept_19 : decode prog_1_method_35_code 19 = .ok (.if_icmp .ne 5, 3) := by decide +kernel
theorem d_D_firstKept_22 : decode prog_1_method_35_code 22 = .ok (.iload_n 1, 1) := by decide +kernel
theorem d_D_firstKept_23 : decode prog_1_method_35_code 23 = .ok (.ireturn, 1) := by decide +kernel
theorem d_D_firstKept_24 : decode prog_1_method_35_code 24 = .ok (.iinc 1 1, 3) := by decide +kernel
theorem d_D_firstKept_27 : decode prog_1_method_35_code 27 = .ok (.goto (-25), 3) := by decide +kernel
theorem d_D_firstKept_30 : decode prog_1_method_35_code 30 = .ok (.iconst (-1), 1) := by decide +kernel
theorem d_D_firstKept_31 : decode prog_1_method_35_code 31 = .ok (.ireturn, 1) := by decide +kernel
theorem d_D_force_0 : decode prog_1_method_34_code 0 = .ok (.aload_n 0, 1) := by decide +kernel
theorem d_D_force_1 : decode prog_1_method_34_code 1 = .ok (.iload_n 1, 1) := by decide +kernel
theorem d_D_force_2 : decode prog_1_method_34_code 2 = .ok (.invokevirtual 141, 3) := by decide +kernel
theorem d_D_force_5 : decode prog_1_method_34_code 5 = .ok (.istore_n 2, 1) := by decide +kernel
theorem d_D_force_6 : decode prog_1_method_34_code 6 = .ok (.iload_n 2, 1) := by decide +kernel
theorem d_D_force_7 : decode prog_1_method_34_code 7 = .ok (.iconst (-1), 1) := by decide +kernel
theorem d_D_force_8 : decode prog_1_method_34_code 8 = .ok (.if_icmp .eq 26, 3) := by decide +kernel
theorem d_D_force_11 : decode prog_1_method_34_code 11 = .ok (.aload_n 0, 1) := by decide +kernel
theorem d_D_force_12 : decode prog_1_method_34_code 12 = .ok (.iload_n 2, 1) := by decide +kernel
theorem d_D_force_13 : decode prog_1_method_34_code 13 = .ok (.aload_n 0, 1) := by decide +kernel
theorem d_D_force_14 : decode prog_1_method_34_code 14 = .ok (.getfield 12, 3) := by decide +kernel
theorem d_D_force_17 : decode prog_1_method_34_code 17 = .ok (.iload_n 2, 1) := by decide +kernel
theorem d_D_force_18 : decode prog_1_method_34_code 18 = .ok (.invokevirtual 52, 3) := by decide +kernel
theorem d_D_force_21 : decode prog_1_method_34_code 21 = .ok (.aload_n 0, 1) := by decide +kernel
theorem d_D_force_22 : decode prog_1_method_34_code 22 = .ok (.getfield 33, 3) := by decide +kernel
theorem d_D_force_25 : decode prog_1_method_34_code 25 = .ok (.iload_n 1, 1) := by decide +kernel
theorem d_D_force_26 : decode prog_1_method_34_code 26 = .ok (.iload_n 2, 1) := by decide +kernel
theorem d_D_force_27 : decode prog_1_method_34_code 27 = .ok (.invokevirtual 132, 3) := by decide +kernel
theorem d_D_force_30 : decode prog_1_method_34_code 30 = .ok (.lxor, 1) := by decide +kernel
theorem d_D_force_31 : decode prog_1_method_34_code 31 = .ok (.invokevirtual 134, 3) := by decide +kernel
theorem d_D_force_34 : decode prog_1_method_34_code 34 = .ok (.return_, 1) := by decide +kernel
theorem d_D_chosen_0 : decode prog_1_method_21_code 0 = .ok (.aload_n 0, 1) := by decide +kernel
theorem d_D_chosen_1 : decode prog_1_method_21_code 1 = .ok (.getfield 12, 3) := by decide +kernel
theorem d_D_chosen_4 : decode prog_1_method_21_code 4 = .ok (.iload_n 1, 1) := by decide +kernel
theorem d_D_chosen_5 : decode prog_1_method_21_code 5 = .ok (.invokevirtual 56, 3) := by decide +kernel
theorem d_D_chosen_8 : decode prog_1_method_21_code 8 = .ok (.ifCond .eq 18, 3) := by decide +kernel
theorem d_D_chosen_11 : decode prog_1_method_21_code 11 = .ok (.aload_n 0, 1) := by decide +kernel
theorem d_D_chosen_12 : decode prog_1_method_21_code 12 = .ok (.iload_n 1, 1) := by decide +kernel
theorem d_D_chosen_13 : decode prog_1_method_21_code 13 = .ok (.aload_n 0, 1) := by decide +kernel
theorem d_D_chosen_14 : decode prog_1_method_21_code 14 = .ok (.getfield 37, 3) := by decide +kernel
theorem d_D_chosen_17 : decode prog_1_method_21_code 17 = .ok (.iload_n 1, 1) := by decide +kernel
theorem d_D_chosen_18 : decode prog_1_method_21_code 18 = .ok (.laload, 1) := by decide +kernel
theorem d_D_chosen_19 : decode prog_1_method_21_code 19 = .ok (.iload_n 2, 1) := by decide +kernel
theorem d_D_chosen_20 : decode prog_1_method_21_code 20 = .ok (.invokevirtual 77, 3) := by decide +kernel
theorem d_D_chosen_23 : decode prog_1_method_21_code 23 = .ok (.goto 4, 3) := by decide +kernel
theorem d_D_chosen_26 : decode prog_1_method_21_code 26 = .ok (.iconst (-1), 1) := by decide +kernel
theorem d_D_chosen_27 : decode prog_1_method_21_code 27 = .ok (.ireturn, 1) := by decide +kernel
theorem d_D_chosenSet_0 : decode prog_1_method_22_code 0 = .ok (.aload_n 0, 1) := by decide +kernel
theorem d_D_chosenSet_1 : decode prog_1_method_22_code 1 = .ok (.getfield 12, 3) := by decide +kernel
theorem d_D_chosenSet_4 : decode prog_1_method_22_code 4 = .ok (.iload_n 1, 1) := by decide +kernel
theorem d_D_chosenSet_5 : decode prog_1_method_22_code 5 = .ok (.invokevirtual 56, 3) := by decide +kernel
theorem d_D_chosenSet_8 : decode prog_1_method_22_code 8 = .ok (.ifCond .eq 20, 3) := by decide +kernel
theorem d_D_chosenSet_11 : decode prog_1_method_22_code 11 = .ok (.aload_n 0, 1) := by decide +kernel
theorem d_D_chosenSet_12 : decode prog_1_method_22_code 12 = .ok (.getfield 12, 3) := by decide +kernel
theorem d_D_chosenSet_15 : decode prog_1_method_22_code 15 = .ok (.iload_n 1, 1) := by decide +kernel
theorem d_D_chosenSet_16 : decode prog_1_method_22_code 16 = .ok (.aload_n 0, 1) := by decide +kernel
theorem d_D_chosenSet_17 : decode prog_1_method_22_code 17 = .ok (.getfield 37, 3) := by decide +kernel
theorem d_D_chosenSet_20 : decode prog_1_method_22_code 20 = .ok (.iload_n 1, 1) := by decide +kernel
theorem d_D_chosenSet_21 : decode prog_1_method_22_code 21 = .ok (.laload, 1) := by decide +kernel
theorem d_D_chosenSet_22 : decode prog_1_method_22_code 22 = .ok (.invokevirtual 81, 3) := by decide +kernel
theorem d_D_chosenSet_25 : decode prog_1_method_22_code 25 = .ok (.goto 4, 3) := by decide +kernel
theorem d_D_chosenSet_28 : decode prog_1_method_22_code 28 = .ok (.lconst 0, 1) := by decide +kernel
theorem d_D_chosenSet_29 : decode prog_1_method_22_code 29 = .ok (.lreturn, 1) := by decide +kernel
theorem d_D_print_0 : decode prog_1_method_23_code 0 = .ok (.aload_n 0, 1) := by decide +kernel
theorem d_D_print_1 : decode prog_1_method_23_code 1 = .ok (.getfield 33, 3) := by decide +kernel
theorem d_D_print_4 : decode prog_1_method_23_code 4 = .ok (.iload_n 1, 1) := by decide +kernel
theorem d_D_print_5 : decode prog_1_method_23_code 5 = .ok (.invokevirtual 124, 3) := by decide +kernel
theorem d_D_print_8 : decode prog_1_method_23_code 8 = .ok (.ifCond .ne 5, 3) := by decide +kernel
theorem d_D_print_11 : decode prog_1_method_23_code 11 = .ok (.iconst (-1), 1) := by decide +kernel
theorem d_D_print_12 : decode prog_1_method_23_code 12 = .ok (.ireturn, 1) := by decide +kernel
theorem d_D_print_13 : decode prog_1_method_23_code 13 = .ok (.aload_n 0, 1) := by decide +kernel
theorem d_D_print_14 : decode prog_1_method_23_code 14 = .ok (.getfield 44, 3) := by decide +kernel
theorem d_D_print_17 : decode prog_1_method_23_code 17 = .ok (.invokevirtual 153, 3) := by decide +kernel
theorem d_D_print_20 : decode prog_1_method_23_code 20 = .ok (.iconst 0, 1) := by decide +kernel
theorem d_D_print_21 : decode prog_1_method_23_code 21 = .ok (.istore_n 2, 1) := by decide +kernel
theorem d_D_print_22 : decode prog_1_method_23_code 22 = .ok (.iload_n 2, 1) := by decide +kernel
theorem d_D_print_23 : decode prog_1_method_23_code 23 = .ok (.aload_n 0, 1) := by decide +kernel
theorem d_D_print_24 : decode prog_1_method_23_code 24 = .ok (.getfield 12, 3) := by decide +kernel
theorem d_D_print_27 : decode prog_1_method_23_code 27 = .ok (.invokevirtual 119, 3) := by decide +kernel
theorem d_D_print_30 : decode prog_1_method_23_code 30 = .ok (.if_icmp .ge 35, 3) := by decide +kernel
theorem d_D_print_33 : decode prog_1_method_23_code 33 = .ok (.aload_n 0, 1) := by decide +kernel
theorem d_D_print_34 : decode prog_1_method_23_code 34 = .ok (.getfield 33, 3) := by decide +kernel
theorem d_D_print_37 : decode prog_1_method_23_code 37 = .ok (.iload_n 1, 1) := by decide +kernel
theorem d_D_print_38 : decode prog_1_method_23_code 38 = .ok (.iload_n 2, 1) := by decide +kernel
theorem d_D_print_39 : decode prog_1_method_23_code 39 = .ok (.invokevirtual 116, 3) := by decide +kernel
theorem d_D_print_42 : decode prog_1_method_23_code 42 = .ok (.ifCond .eq 17, 3) := by decide +kernel
theorem d_D_print_45 : decode prog_1_method_23_code 45 = .ok (.aload_n 0, 1) := by decide +kernel
theorem d_D_print_46 : decode prog_1_method_23_code 46 = .ok (.iload_n 2, 1) := by decide +kernel
theorem d_D_print_47 : decode prog_1_method_23_code 47 = .ok (.aload_n 0, 1) := by decide +kernel
theorem d_D_print_48 : decode prog_1_method_23_code 48 = .ok (.getfield 33, 3) := by decide +kernel
theorem d_D_print_51 : decode prog_1_method_23_code 51 = .ok (.iload_n 1, 1) := by decide +kernel
theorem d_D_print_52 : decode prog_1_method_23_code 52 = .ok (.iload_n 2, 1) := by decide +kernel
theorem d_D_print_53 : decode prog_1_method_23_code 53 = .ok (.invokevirtual 132, 3) := by decide +kernel
theorem d_D_print_56 : decode prog_1_method_23_code 56 = .ok (.invokevirtual 156, 3) := by decide +kernel
theorem d_D_print_59 : decode prog_1_method_23_code 59 = .ok (.iinc 2 1, 3) := by decide +kernel
theorem d_D_print_62 : decode prog_1_method_23_code 62 = .ok (.goto (-40), 3) := by decide +kernel
theorem d_D_print_65 : decode prog_1_method_23_code 65 = .ok (.aload_n 0, 1) := by decide +kernel
theorem d_D_print_66 : decode prog_1_method_23_code 66 = .ok (.getfield 44, 3) := by decide +kernel
theorem d_D_print_69 : decode prog_1_method_23_code 69 = .ok (.invokevirtual 159, 3) := by decide +kernel
theorem d_D_print_72 : decode prog_1_method_23_code 72 = .ok (.ireturn, 1) := by decide +kernel
theorem d_G_clear_0 : decode prog_5_method_3_code 0 = .ok (.aload_n 0, 1) := by decide +kernel
theorem d_G_clear_1 : decode prog_5_method_3_code 1 = .ok (.iconst 0, 1) := by decide +kernel
theorem d_G_clear_2 : decode prog_5_method_3_code 2 = .ok (.putfield 15, 3) := by decide +kernel
theorem d_G_clear_5 : decode prog_5_method_3_code 5 = .ok (.return_, 1) := by decide +kernel
theorem d_D_printPart_0 : decode prog_1_method_36_code 0 = .ok (.aload_n 0, 1) := by decide +kernel
theorem d_D_printPart_1 : decode prog_1_method_36_code 1 = .ok (.getfield 44, 3) := by decide +kernel
theorem d_D_printPart_4 : decode prog_1_method_36_code 4 = .ok (.invokevirtual 159, 3) := by decide +kernel
theorem d_D_printPart_7 : decode prog_1_method_36_code 7 = .ok (.ifCond .le 21, 3) := by decide +kernel
theorem d_D_printPart_10 : decode prog_1_method_36_code 10 = .ok (.aload_n 0, 1) := by decide +kernel
theorem d_D_printPart_11 : decode prog_1_method_36_code 11 = .ok (.getfield 44, 3) := by decide +kernel
theorem d_D_printPart_14 : decode prog_1_method_36_code 14 = .ok (.bipush 59, 2) := by decide +kernel
theorem d_D_printPart_16 : decode prog_1_method_36_code 16 = .ok (.invokevirtual 210, 3) := by decide +kernel
theorem d_D_printPart_19 : decode prog_1_method_36_code 19 = .ok (.aload_n 0, 1) := by decide +kernel
theorem d_D_printPart_20 : decode prog_1_method_36_code 20 = .ok (.getfield 44, 3) := by decide +kernel
theorem d_D_printPart_23 : decode prog_1_method_36_code 23 = .ok (.bipush 32, 2) := by decide +kernel
theorem d_D_printPart_25 : decode prog_1_method_36_code 25 = .ok (.invokevirtual 210, 3) := by decide +kernel
theorem d_D_printPart_28 : decode prog_1_method_36_code 28 = .ok (.lload_n 2, 1) := by decide +kernel
theorem d_D_printPart_29 : decode prog_1_method_36_code 29 = .ok (.invokestatic 165, 3) := by decide +kernel
theorem d_D_printPart_32 : decode prog_1_method_36_code 32 = .ok (.ifCond .ne 12, 3) := by decide +kernel
theorem d_D_printPart_35 : decode prog_1_method_36_code 35 = .ok (.aload_n 0, 1) := by decide +kernel
theorem d_D_printPart_36 : decode prog_1_method_36_code 36 = .ok (.getfield 44, 3) := by decide +kernel
theorem d_D_printPart_39 : decode prog_1_method_36_code 39 = .ok (.bipush 33, 2) := by decide +kernel
theorem d_D_printPart_41 : decode prog_1_method_36_code 41 = .ok (.invokevirtual 210, 3) := by decide +kernel
theorem d_D_printPart_44 : decode prog_1_method_36_code 44 = .ok (.aload_n 0, 1) := by decide +kernel
theorem d_D_printPart_45 : decode prog_1_method_36_code 45 = .ok (.getfield 44, 3) := by decide +kernel
theorem d_D_printPart_48 : decode prog_1_method_36_code 48 = .ok (.bipush 97, 2) := by decide +kernel
theorem d_D_printPart_50 : decode prog_1_method_36_code 50 = .ok (.iload_n 1, 1) := by decide +kernel
theorem d_D_printPart_51 : decode prog_1_method_36_code 51 = .ok (.iadd, 1) := by decide +kernel
theorem d_D_printPart_52 : decode prog_1_method_36_code 52 = .ok (.i2c, 1) := by decide +kernel
theorem d_D_printPart_53 : decode prog_1_method_36_code 53 = .ok (.invokevirtual 210, 3) := by decide +kernel
theorem d_D_printPart_56 : decode prog_1_method_36_code 56 = .ok (.aload_n 0, 1) := by decide +kernel
theorem d_D_printPart_57 : decode prog_1_method_36_code 57 = .ok (.getfield 44, 3) := by decide +kernel
theorem d_D_printPart_60 : decode prog_1_method_36_code 60 = .ok (.bipush 32, 2) := by decide +kernel
theorem d_D_printPart_62 : decode prog_1_method_36_code 62 = .ok (.invokevirtual 210, 3) := by decide +kernel
theorem d_D_printPart_65 : decode prog_1_method_36_code 65 = .ok (.aload_n 0, 1) := by decide +kernel
theorem d_D_printPart_66 : decode prog_1_method_36_code 66 = .ok (.getfield 44, 3) := by decide +kernel
theorem d_D_printPart_69 : decode prog_1_method_36_code 69 = .ok (.aload_n 0, 1) := by decide +kernel
theorem d_D_printPart_70 : decode prog_1_method_36_code 70 = .ok (.getfield 12, 3) := by decide +kernel
theorem d_D_printPart_73 : decode prog_1_method_36_code 73 = .ok (.iload_n 1, 1) := by decide +kernel
theorem d_D_printPart_74 : decode prog_1_method_36_code 74 = .ok (.lload_n 2, 1) := by decide +kernel
theorem d_D_printPart_75 : decode prog_1_method_36_code 75 = .ok (.invokevirtual 81, 3) := by decide +kernel
theorem d_D_printPart_78 : decode prog_1_method_36_code 78 = .ok (.invokevirtual 213, 3) := by decide +kernel
theorem d_D_printPart_81 : decode prog_1_method_36_code 81 = .ok (.return_, 1) := by decide +kernel
theorem d_G_length_0 : decode prog_5_method_2_code 0 = .ok (.aload_n 0, 1) := by decide +kernel
theorem d_G_length_1 : decode prog_5_method_2_code 1 = .ok (.getfield 15, 3) := by decide +kernel
theorem d_G_length_4 : decode prog_5_method_2_code 4 = .ok (.ireturn, 1) := by decide +kernel
theorem d_G_put_0 : decode prog_5_method_4_code 0 = .ok (.aload_n 0, 1) := by decide +kernel
theorem d_G_put_1 : decode prog_5_method_4_code 1 = .ok (.getfield 15, 3) := by decide +kernel
theorem d_G_put_4 : decode prog_5_method_4_code 4 = .ok (.aload_n 0, 1) := by decide +kernel
theorem d_G_put_5 : decode prog_5_method_4_code 5 = .ok (.getfield 9, 3) := by decide +kernel
theorem d_G_put_8 : decode prog_5_method_4_code 8 = .ok (.arraylength, 1) := by decide +kernel
theorem d_G_put_9 : decode prog_5_method_4_code 9 = .ok (.if_icmp .ge 23, 3) := by decide +kernel
theorem d_G_put_12 : decode prog_5_method_4_code 12 = .ok (.aload_n 0, 1) := by decide +kernel
theorem d_G_put_13 : decode prog_5_method_4_code 13 = .ok (.getfield 9, 3) := by decide +kernel
theorem d_G_put_16 : decode prog_5_method_4_code 16 = .ok (.aload_n 0, 1) := by decide +kernel
theorem d_G_put_17 : decode prog_5_method_4_code 17 = .ok (.getfield 15, 3) := by decide +kernel
theorem d_G_put_20 : decode prog_5_method_4_code 20 = .ok (.iload_n 1, 1) := by decide +kernel
theorem d_G_put_21 : decode prog_5_method_4_code 21 = .ok (.castore, 1) := by decide +kernel
theorem d_G_put_22 : decode prog_5_method_4_code 22 = .ok (.aload_n 0, 1) := by decide +kernel
theorem d_G_put_23 : decode prog_5_method_4_code 23 = .ok (.dup, 1) := by decide +kernel
theorem d_G_put_24 : decode prog_5_method_4_code 24 = .ok (.getfield 15, 3) := by decide +kernel
theorem d_G_put_27 : decode prog_5_method_4_code 27 = .ok (.iconst 1, 1) := by decide +kernel
theorem d_G_put_28 : decode prog_5_method_4_code 28 = .ok (.iadd, 1) := by decide +kernel
theorem d_G_put_29 : decode prog_5_method_4_code 29 = .ok (.putfield 15, 3) := by decide +kernel
theorem d_G_put_32 : decode prog_5_method_4_code 32 = .ok (.return_, 1) := by decide +kernel
theorem d_G_putRuns_0 : decode prog_5_method_5_code 0 = .ok (.lload_n 1, 1) := by decide +kernel
theorem d_G_putRuns_1 : decode prog_5_method_5_code 1 = .ok (.lload_n 1, 1) := by decide +kernel
theorem d_G_putRuns_2 : decode prog_5_method_5_code 2 = .ok (.iconst 1, 1) := by decide +kernel
theorem d_G_putRuns_3 : decode prog_5_method_5_code 3 = .ok (.lshl, 1) := by decide +kernel
theorem d_G_putRuns_4 : decode prog_5_method_5_code 4 = .ok (.ldc2_w 19, 3) := by decide +kernel
theorem d_G_putRuns_7 : decode prog_5_method_5_code 7 = .ok (.lxor, 1) := by decide +kernel
theorem d_G_putRuns_8 : decode prog_5_method_5_code 8 = .ok (.land, 1) := by decide +kernel
theorem d_G_putRuns_9 : decode prog_5_method_5_code 9 = .ok (.lstore_n 3, 1) := by decide +kernel
theorem d_G_putRuns_10 : decode prog_5_method_5_code 10 = .ok (.lload_n 1, 1) := by decide +kernel
theorem d_G_putRuns_11 : decode prog_5_method_5_code 11 = .ok (.lload_n 1, 1) := by decide +kernel
theorem d_G_putRuns_12 : decode prog_5_method_5_code 12 = .ok (.iconst 1, 1) := by decide +kernel
theorem d_G_putRuns_13 : decode prog_5_method_5_code 13 = .ok (.lushr, 1) := by decide +kernel
theorem d_G_putRuns_14 : decode prog_5_method_5_code 14 = .ok (.ldc2_w 19, 3) := by decide +kernel
theorem d_G_putRuns_17 : decode prog_5_method_5_code 17 = .ok (.lxor, 1) := by decide +kernel
theorem d_G_putRuns_18 : decode prog_5_method_5_code 18 = .ok (.land, 1) := by decide +kernel
theorem d_G_putRuns_19 : decode prog_5_method_5_code 19 = .ok (.lstore 5, 2) := by decide +kernel
theorem d_G_putRuns_21 : decode prog_5_method_5_code 21 = .ok (.iconst 1, 1) := by decide +kernel
theorem d_G_putRuns_22 : decode prog_5_method_5_code 22 = .ok (.istore 7, 2) := by decide +kernel
theorem d_G_putRuns_24 : decode prog_5_method_5_code 24 = .ok (.iconst 0, 1) := by decide +kernel
theorem d_G_putRuns_25 : decode prog_5_method_5_code 25 = .ok (.istore 8, 2) := by decide +kernel
theorem d_G_putRuns_27 : decode prog_5_method_5_code 27 = .ok (.iload 8, 2) := by decide +kernel
theorem d_G_putRuns_29 : decode prog_5_method_5_code 29 = .ok (.bipush 48, 2) := by decide +kernel
theorem d_G_putRuns_31 : decode prog_5_method_5_code 31 = .ok (.if_icmp .ge 63, 3) := by decide +kernel
theorem d_G_putRuns_34 : decode prog_5_method_5_code 34 = .ok (.lload_n 3, 1) := by decide +kernel
theorem d_G_putRuns_35 : decode prog_5_method_5_code 35 = .ok (.iload 8, 2) := by decide +kernel
theorem d_G_putRuns_37 : decode prog_5_method_5_code 37 = .ok (.invokestatic 21, 3) := by decide +kernel
theorem d_G_putRuns_40 : decode prog_5_method_5_code 40 = .ok (.ifCond .eq 26, 3) := by decide +kernel
theorem d_G_putRuns_43 : decode prog_5_method_5_code 43 = .ok (.iload 7, 2) := by decide +kernel
theorem d_G_putRuns_45 : decode prog_5_method_5_code 45 = .ok (.ifCond .ne 9, 3) := by decide +kernel
theorem d_G_putRuns_48 : decode prog_5_method_5_code 48 = .ok (.aload_n 0, 1) := by decide +kernel
theorem d_G_putRuns_49 : decode prog_5_method_5_code 49 = .ok (.bipush 44, 2) := by decide +kernel
theorem d_G_putRuns_51 : decode prog_5_method_5_code 51 = .ok (.invokevirtual 25, 3) := by decide +kernel
theorem d_G_putRuns_54 : decode prog_5_method_5_code 54 = .ok (.iconst 0, 1) := by decide +kernel
theorem d_G_putRuns_55 : decode prog_5_method_5_code 55 = .ok (.istore 7, 2) := by decide +kernel
theorem d_G_putRuns_57 : decode prog_5_method_5_code 57 = .ok (.aload_n 0, 1) := by decide +kernel
theorem d_G_putRuns_58 : decode prog_5_method_5_code 58 = .ok (.iload 8, 2) := by decide +kernel
theorem d_G_putRuns_60 : decode prog_5_method_5_code 60 = .ok (.invokevirtual 29, 3) := by decide +kernel
theorem d_G_putRuns_63 : decode prog_5_method_5_code 63 = .ok (.goto 25, 3) := by decide +kernel
theorem d_G_putRuns_66 : decode prog_5_method_5_code 66 = .ok (.lload 5, 2) := by decide +kernel
theorem d_G_putRuns_68 : decode prog_5_method_5_code 68 = .ok (.iload 8, 2) := by decide +kernel
theorem d_G_putRuns_70 : decode prog_5_method_5_code 70 = .ok (.invokestatic 21, 3) := by decide +kernel
theorem d_G_putRuns_73 : decode prog_5_method_5_code 73 = .ok (.ifCond .eq 15, 3) := by decide +kernel
theorem d_G_putRuns_76 : decode prog_5_method_5_code 76 = .ok (.aload_n 0, 1) := by decide +kernel
theorem d_G_putRuns_77 : decode prog_5_method_5_code 77 = .ok (.bipush 45, 2) := by decide +kernel
theorem d_G_putRuns_79 : decode prog_5_method_5_code 79 = .ok (.invokevirtual 25, 3) := by decide +kernel
theorem d_G_putRuns_82 : decode prog_5_method_5_code 82 = .ok (.aload_n 0, 1) := by decide +kernel
theorem d_G_putRuns_83 : decode prog_5_method_5_code 83 = .ok (.iload 8, 2) := by decide +kernel
theorem d_G_putRuns_85 : decode prog_5_method_5_code 85 = .ok (.invokevirtual 29, 3) := by decide +kernel
theorem d_G_putRuns_88 : decode prog_5_method_5_code 88 = .ok (.iinc 8 1, 3) := by decide +kernel
theorem d_G_putRuns_91 : decode prog_5_method_5_code 91 = .ok (.goto (-64), 3) := by decide +kernel
theorem d_G_putRuns_94 : decode prog_5_method_5_code 94 = .ok (.return_, 1) := by decide +kernel
theorem d_G_putNumber_0 : decode prog_5_method_6_code 0 = .ok (.iload_n 1, 1) := by decide +kernel
theorem d_G_putNumber_1 : decode prog_5_method_6_code 1 = .ok (.bipush 10, 2) := by decide +kernel
theorem d_G_putNumber_3 : decode prog_5_method_6_code 3 = .ok (.if_icmp .lt 15, 3) := by decide +kernel
theorem d_G_putNumber_6 : decode prog_5_method_6_code 6 = .ok (.aload_n 0, 1) := by decide +kernel
theorem d_G_putNumber_7 : decode prog_5_method_6_code 7 = .ok (.bipush 48, 2) := by decide +kernel
theorem d_G_putNumber_9 : decode prog_5_method_6_code 9 = .ok (.iload_n 1, 1) := by decide +kernel
theorem d_G_putNumber_10 : decode prog_5_method_6_code 10 = .ok (.bipush 10, 2) := by decide +kernel
theorem d_G_putNumber_12 : decode prog_5_method_6_code 12 = .ok (.idiv, 1) := by decide +kernel
theorem d_G_putNumber_13 : decode prog_5_method_6_code 13 = .ok (.iadd, 1) := by decide +kernel
theorem d_G_putNumber_14 : decode prog_5_method_6_code 14 = .ok (.i2c, 1) := by decide +kernel
theorem d_G_putNumber_15 : decode prog_5_method_6_code 15 = .ok (.invokevirtual 25, 3) := by decide +kernel
theorem d_G_putNumber_18 : decode prog_5_method_6_code 18 = .ok (.aload_n 0, 1) := by decide +kernel
theorem d_G_putNumber_19 : decode prog_5_method_6_code 19 = .ok (.bipush 48, 2) := by decide +kernel
theorem d_G_putNumber_21 : decode prog_5_method_6_code 21 = .ok (.iload_n 1, 1) := by decide +kernel
theorem d_G_putNumber_22 : decode prog_5_method_6_code 22 = .ok (.bipush 10, 2) := by decide +kernel
theorem d_G_putNumber_24 : decode prog_5_method_6_code 24 = .ok (.irem, 1) := by decide +kernel
theorem d_G_putNumber_25 : decode prog_5_method_6_code 25 = .ok (.iadd, 1) := by decide +kernel
theorem d_G_putNumber_26 : decode prog_5_method_6_code 26 = .ok (.i2c, 1) := by decide +kernel
theorem d_G_putNumber_27 : decode prog_5_method_6_code 27 = .ok (.invokevirtual 25, 3) := by decide +kernel
theorem d_G_putNumber_30 : decode prog_5_method_6_code 30 = .ok (.return_, 1) := by decide +kernel
theorem d_D_at_0 : decode prog_1_method_24_code 0 = .ok (.aload_n 0, 1) := by decide +kernel
theorem d_D_at_1 : decode prog_1_method_24_code 1 = .ok (.getfield 44, 3) := by decide +kernel
theorem d_D_at_4 : decode prog_1_method_24_code 4 = .ok (.iload_n 1, 1) := by decide +kernel
theorem d_D_at_5 : decode prog_1_method_24_code 5 = .ok (.invokevirtual 162, 3) := by decide +kernel
theorem d_D_at_8 : decode prog_1_method_24_code 8 = .ok (.ireturn, 1) := by decide +kernel
theorem d_G_signAt_0 : decode prog_5_method_7_code 0 = .ok (.iload_n 1, 1) := by decide +kernel
theorem d_G_signAt_1 : decode prog_5_method_7_code 1 = .ok (.ifCond .lt 20, 3) := by decide +kernel
theorem d_G_signAt_4 : decode prog_5_method_7_code 4 = .ok (.iload_n 1, 1) := by decide +kernel
theorem d_G_signAt_5 : decode prog_5_method_7_code 5 = .ok (.aload_n 0, 1) := by decide +kernel
theorem d_G_signAt_6 : decode prog_5_method_7_code 6 = .ok (.getfield 15, 3) := by decide +kernel
theorem d_G_signAt_9 : decode prog_5_method_7_code 9 = .ok (.if_icmp .ge 12, 3) := by decide +kernel
theorem d_G_signAt_12 : decode prog_5_method_7_code 12 = .ok (.iload_n 1, 1) := by decide +kernel
theorem d_G_signAt_13 : decode prog_5_method_7_code 13 = .ok (.aload_n 0, 1) := by decide +kernel
theorem d_G_signAt_14 : decode prog_5_method_7_code 14 = .ok (.getfield 9, 3) := by decide +kernel
theorem d_G_signAt_17 : decode prog_5_method_7_code 17 = .ok (.arraylength, 1) := by decide +kernel
theorem d_G_signAt_18 : decode prog_5_method_7_code 18 = .ok (.if_icmp .lt 5, 3) := by decide +kernel
theorem d_G_signAt_21 : decode prog_5_method_7_code 21 = .ok (.iconst (-1), 1) := by decide +kernel
theorem d_G_signAt_22 : decode prog_5_method_7_code 22 = .ok (.ireturn, 1) := by decide +kernel
theorem d_G_signAt_23 : decode prog_5_method_7_code 23 = .ok (.aload_n 0, 1) := by decide +kernel
theorem d_G_signAt_24 : decode prog_5_method_7_code 24 = .ok (.getfield 9, 3) := by decide +kernel
theorem d_G_signAt_27 : decode prog_5_method_7_code 27 = .ok (.iload_n 1, 1) := by decide +kernel
theorem d_G_signAt_28 : decode prog_5_method_7_code 28 = .ok (.caload, 1) := by decide +kernel
theorem d_G_signAt_29 : decode prog_5_method_7_code 29 = .ok (.ireturn, 1) := by decide +kernel
end
section
theorem d_L_law_0 : decode code 0 = .ok (.new 7, 3) := by decide +kernel
theorem d_L_law_3 : decode code 3 = .ok (.dup, 1) := by decide +kernel
theorem d_L_law_4 : decode code 4 = .ok (.invokespecial 9, 3) := by decide +kernel
theorem d_L_law_7 : decode code 7 = .ok (.astore_n 1, 1) := by decide +kernel
theorem d_L_law_8 : decode code 8 = .ok (.new 10, 3) := by decide +kernel
theorem d_L_law_11 : decode code 11 = .ok (.dup, 1) := by decide +kernel
theorem d_L_law_12 : decode code 12 = .ok (.invokespecial 12, 3) := by decide +kernel
theorem d_L_law_15 : decode code 15 = .ok (.astore_n 2, 1) := by decide +kernel
theorem d_L_law_16 : decode code 16 = .ok (.iconst 0, 1) := by decide +kernel
theorem d_L_law_17 : decode code 17 = .ok (.istore_n 3, 1) := by decide +kernel
theorem d_L_law_18 : decode code 18 = .ok (.iload_n 3, 1) := by decide +kernel
theorem d_L_law_19 : decode code 19 = .ok (.aload_n 0, 1) := by decide +kernel
theorem d_L_law_20 : decode code 20 = .ok (.arraylength, 1) := by decide +kernel
theorem d_L_law_21 : decode code 21 = .ok (.bipush 7, 2) := by decide +kernel
theorem d_L_law_23 : decode code 23 = .ok (.isub, 1) := by decide +kernel
theorem d_L_law_24 : decode code 24 = .ok (.if_icmp .gt 952, 3) := by decide +kernel
theorem d_L_law_27 : decode code 27 = .ok (.aload_n 0, 1) := by decide +kernel
theorem d_L_law_28 : decode code 28 = .ok (.iload_n 3, 1) := by decide +kernel
theorem d_L_law_29 : decode code 29 = .ok (.iaload, 1) := by decide +kernel
theorem d_L_law_30 : decode code 30 = .ok (.bipush 31, 2) := by decide +kernel
theorem d_L_law_32 : decode code 32 = .ok (.iand, 1) := by decide +kernel
theorem d_L_law_33 : decode code 33 = .ok (.tableswitch 937 0 22 #[107, 130, 219, 278, 311, 344, 368, 463, 496, 585, 628, 641, 664, 707, 741, 764, 775, 798, 821, 834, 867, 891, 914], 107) := by decide +kernel
theorem d_L_law_140 : decode code 140 = .ok (.aload_n 1, 1) := by decide +kernel
theorem d_L_law_141 : decode code 141 = .ok (.aload_n 0, 1) := by decide +kernel
theorem d_L_law_142 : decode code 142 = .ok (.iload_n 3, 1) := by decide +kernel
theorem d_L_law_143 : decode code 143 = .ok (.iconst 1, 1) := by decide +kernel
theorem d_L_law_144 : decode code 144 = .ok (.iadd, 1) := by decide +kernel
theorem d_L_law_145 : decode code 145 = .ok (.iaload, 1) := by decide +kernel
theorem d_L_law_146 : decode code 146 = .ok (.invokevirtual 13, 3) := by decide +kernel
theorem d_L_law_149 : decode code 149 = .ok (.aload_n 2, 1) := by decide +kernel
theorem d_L_law_150 : decode code 150 = .ok (.aload_n 0, 1) := by decide +kernel
theorem d_L_law_151 : decode code 151 = .ok (.iload_n 3, 1) := by decide +kernel
theorem d_L_law_152 : decode code 152 = .ok (.iconst 1, 1) := by decide +kernel
theorem d_L_law_153 : decode code 153 = .ok (.iadd, 1) := by decide +kernel
theorem d_L_law_154 : decode code 154 = .ok (.iaload, 1) := by decide +kernel
theorem d_L_law_155 : decode code 155 = .ok (.invokevirtual 17, 3) := by decide +kernel
theorem d_L_law_158 : decode code 158 = .ok (.if_icmp .eq 812, 3) := by decide +kernel
theorem d_L_law_161 : decode code 161 = .ok (.iconst 0, 1) := by decide +kernel
theorem d_L_law_162 : decode code 162 = .ok (.ireturn, 1) := by decide +kernel
theorem d_L_law_163 : decode code 163 = .ok (.aload_n 1, 1) := by decide +kernel
theorem d_L_law_164 : decode code 164 = .ok (.aload_n 0, 1) := by decide +kernel
theorem d_L_law_165 : decode code 165 = .ok (.iload_n 3, 1) := by decide +kernel
theorem d_L_law_166 : decode code 166 = .ok (.iconst 1, 1) := by decide +kernel
theorem d_L_law_167 : decode code 167 = .ok (.iadd, 1) := by decide +kernel
theorem d_L_law_168 : decode code 168 = .ok (.iaload, 1) := by decide +kernel
theorem d_L_law_169 : decode code 169 = .ok (.aload_n 0, 1) := by decide +kernel
theorem d_L_law_170 : decode code 170 = .ok (.iload_n 3, 1) := by decide +kernel
theorem d_L_law_171 : decode code 171 = .ok (.iconst 2, 1) := by decide +kernel
theorem d_L_law_172 : decode code 172 = .ok (.iadd, 1) := by decide +kernel
theorem d_L_law_173 : decode code 173 = .ok (.iaload, 1) := by decide +kernel
theorem d_L_law_174 : decode code 174 = .ok (.i2l, 1) := by decide +kernel
theorem d_L_law_175 : decode code 175 = .ok (.bipush 32, 2) := by decide +kernel
theorem d_L_law_177 : decode code 177 = .ok (.lshl, 1) := by decide +kernel
theorem d_L_law_178 : decode code 178 = .ok (.aload_n 0, 1) := by decide +kernel
theorem d_L_law_179 : decode code 179 = .ok (.iload_n 3, 1) := by decide +kernel
theorem d_L_law_180 : decode code 180 = .ok (.iconst 3, 1) := by decide +kernel
theorem d_L_law_181 : decode code 181 = .ok (.iadd, 1) := by decide +kernel
theorem d_L_law_182 : decode code 182 = .ok (.iaload, 1) := by decide +kernel
theorem d_L_law_183 : decode code 183 = .ok (.i2l, 1) := by decide +kernel
theorem d_L_law_184 : decode code 184 = .ok (.ldc2_w 18, 3) := by decide +kernel
theorem d_L_law_187 : decode code 187 = .ok (.land, 1) := by decide +kernel
theorem d_L_law_188 : decode code 188 = .ok (.lor, 1) := by decide +kernel
theorem d_L_law_189 : decode code 189 = .ok (.aload_n 0, 1) := by decide +kernel
theorem d_L_law_190 : decode code 190 = .ok (.iload_n 3, 1) := by decide +kernel
theorem d_L_law_191 : decode code 191 = .ok (.iconst 4, 1) := by decide +kernel
theorem d_L_law_192 : decode code 192 = .ok (.iadd, 1) := by decide +kernel
theorem d_L_law_193 : decode code 193 = .ok (.iaload, 1) := by decide +kernel
theorem d_L_law_194 : decode code 194 = .ok (.ifCond .eq 7, 3) := by decide +kernel
theorem d_L_law_197 : decode code 197 = .ok (.iconst 1, 1) := by decide +kernel
theorem d_L_law_198 : decode code 198 = .ok (.goto 4, 3) := by decide +kernel
theorem d_L_law_201 : decode code 201 = .ok (.iconst 0, 1) := by decide +kernel
theorem d_L_law_202 : decode code 202 = .ok (.invokevirtual 20, 3) := by decide +kernel
theorem d_L_law_205 : decode code 205 = .ok (.aload_n 2, 1) := by decide +kernel
theorem d_L_law_206 : decode code 206 = .ok (.aload_n 0, 1) := by decide +kernel
theorem d_L_law_207 : decode code 207 = .ok (.iload_n 3, 1) := by decide +kernel
theorem d_L_law_208 : decode code 208 = .ok (.iconst 1, 1) := by decide +kernel
theorem d_L_law_209 : decode code 209 = .ok (.iadd, 1) := by decide +kernel
theorem d_L_law_210 : decode code 210 = .ok (.iaload, 1) := by decide +kernel
theorem d_L_law_211 : decode code 211 = .ok (.aload_n 0, 1) := by decide +kernel
theorem d_L_law_212 : decode code 212 = .ok (.iload_n 3, 1) := by decide +kernel
theorem d_L_law_213 : decode code 213 = .ok (.iconst 2, 1) := by decide +kernel
theorem d_L_law_214 : decode code 214 = .ok (.iadd, 1) := by decide +kernel
theorem d_L_law_215 : decode code 215 = .ok (.iaload, 1) := by decide +kernel
theorem d_L_law_216 : decode code 216 = .ok (.i2l, 1) := by decide +kernel
theorem d_L_law_217 : decode code 217 = .ok (.bipush 32, 2) := by decide +kernel
theorem d_L_law_219 : decode code 219 = .ok (.lshl, 1) := by decide +kernel
theorem d_L_law_220 : decode code 220 = .ok (.aload_n 0, 1) := by decide +kernel
theorem d_L_law_221 : decode code 221 = .ok (.iload_n 3, 1) := by decide +kernel
theorem d_L_law_222 : decode code 222 = .ok (.iconst 3, 1) := by decide +kernel
theorem d_L_law_223 : decode code 223 = .ok (.iadd, 1) := by decide +kernel
theorem d_L_law_224 : decode code 224 = .ok (.iaload, 1) := by decide +kernel
theorem d_L_law_225 : decode code 225 = .ok (.i2l, 1) := by decide +kernel
theorem d_L_law_226 : decode code 226 = .ok (.ldc2_w 18, 3) := by decide +kernel
theorem d_L_law_229 : decode code 229 = .ok (.land, 1) := by decide +kernel
theorem d_L_law_230 : decode code 230 = .ok (.lor, 1) := by decide +kernel
theorem d_L_law_231 : decode code 231 = .ok (.aload_n 0, 1) := by decide +kernel
theorem d_L_law_232 : decode code 232 = .ok (.iload_n 3, 1) := by decide +kernel
theorem d_L_law_233 : decode code 233 = .ok (.iconst 4, 1) := by decide +kernel
theorem d_L_law_234 : decode code 234 = .ok (.iadd, 1) := by decide +kernel
theorem d_L_law_235 : decode code 235 = .ok (.iaload, 1) := by decide +kernel
theorem d_L_law_236 : decode code 236 = .ok (.ifCond .eq 7, 3) := by decide +kernel
theorem d_L_law_239 : decode code 239 = .ok (.iconst 1, 1) := by decide +kernel
theorem d_L_law_240 : decode code 240 = .ok (.goto 4, 3) := by decide +kernel
theorem d_L_law_243 : decode code 243 = .ok (.iconst 0, 1) := by decide +kernel
theorem d_L_law_244 : decode code 244 = .ok (.invokevirtual 24, 3) := by decide +kernel
theorem d_L_law_247 : decode code 247 = .ok (.if_icmp .eq 723, 3) := by decide +kernel
theorem d_L_law_250 : decode code 250 = .ok (.iconst 0, 1) := by decide +kernel
theorem d_L_law_251 : decode code 251 = .ok (.ireturn, 1) := by decide +kernel
theorem d_L_law_252 : decode code 252 = .ok (.aload_n 1, 1) := by decide +kernel
theorem d_L_law_253 : decode code 253 = .ok (.aload_n 0, 1) := by decide +kernel
theorem d_L_law_254 : decode code 254 = .ok (.iload_n 3, 1) := by decide +kernel
theorem d_L_law_255 : decode code 255 = .ok (.iconst 1, 1) := by decide +kernel
theorem d_L_law_256 : decode code 256 = .ok (.iadd, 1) := by decide +kernel
theorem d_L_law_257 : decode code 257 = .ok (.iaload, 1) := by decide +kernel
theorem d_L_law_258 : decode code 258 = .ok (.aload_n 0, 1) := by decide +kernel
theorem d_L_law_259 : decode code 259 = .ok (.iload_n 3, 1) := by decide +kernel
theorem d_L_law_260 : decode code 260 = .ok (.iconst 2, 1) := by decide +kernel
theorem d_L_law_261 : decode code 261 = .ok (.iadd, 1) := by decide +kernel
theorem d_L_law_262 : decode code 262 = .ok (.iaload, 1) := by decide +kernel
theorem d_L_law_263 : decode code 263 = .ok (.aload_n 0, 1) := by decide +kernel
theorem d_L_law_264 : decode code 264 = .ok (.iload_n 3, 1) := by decide +kernel
theorem d_L_law_265 : decode code 265 = .ok (.iconst 3, 1) := by decide +kernel
theorem d_L_law_266 : decode code 266 = .ok (.iadd, 1) := by decide +kernel
theorem d_L_law_267 : decode code 267 = .ok (.iaload, 1) := by decide +kernel
theorem d_L_law_268 : decode code 268 = .ok (.ifCond .eq 7, 3) := by decide +kernel
theorem d_L_law_271 : decode code 271 = .ok (.iconst 1, 1) := by decide +kernel
theorem d_L_law_272 : decode code 272 = .ok (.goto 4, 3) := by decide +kernel
theorem d_L_law_275 : decode code 275 = .ok (.iconst 0, 1) := by decide +kernel
theorem d_L_law_276 : decode code 276 = .ok (.invokevirtual 25, 3) := by decide +kernel
theorem d_L_law_279 : decode code 279 = .ok (.aload_n 2, 1) := by decide +kernel
theorem d_L_law_280 : decode code 280 = .ok (.aload_n 0, 1) := by decide +kernel
theorem d_L_law_281 : decode code 281 = .ok (.iload_n 3, 1) := by decide +kernel
theorem d_L_law_282 : decode code 282 = .ok (.iconst 1, 1) := by decide +kernel
theorem d_L_law_283 : decode code 283 = .ok (.iadd, 1) := by decide +kernel
theorem d_L_law_284 : decode code 284 = .ok (.iaload, 1) := by decide +kernel
theorem d_L_law_285 : decode code 285 = .ok (.aload_n 0, 1) := by decide +kernel
theorem d_L_law_286 : decode code 286 = .ok (.iload_n 3, 1) := by decide +kernel
theorem d_L_law_287 : decode code 287 = .ok (.iconst 2, 1) := by decide +kernel
theorem d_L_law_288 : decode code 288 = .ok (.iadd, 1) := by decide +kernel
theorem d_L_law_289 : decode code 289 = .ok (.iaload, 1) := by decide +kernel
theorem d_L_law_290 : decode code 290 = .ok (.aload_n 0, 1) := by decide +kernel
theorem d_L_law_291 : decode code 291 = .ok (.iload_n 3, 1) := by decide +kernel
theorem d_L_law_292 : decode code 292 = .ok (.iconst 3, 1) := by decide +kernel
theorem d_L_law_293 : decode code 293 = .ok (.iadd, 1) := by decide +kernel
theorem d_L_law_294 : decode code 294 = .ok (.iaload, 1) := by decide +kernel
theorem d_L_law_295 : decode code 295 = .ok (.ifCond .eq 7, 3) := by decide +kernel
theorem d_L_law_298 : decode code 298 = .ok (.iconst 1, 1) := by decide +kernel
theorem d_L_law_299 : decode code 299 = .ok (.goto 4, 3) := by decide +kernel
theorem d_L_law_302 : decode code 302 = .ok (.iconst 0, 1) := by decide +kernel
theorem d_L_law_303 : decode code 303 = .ok (.invokevirtual 29, 3) := by decide +kernel
theorem d_L_law_306 : decode code 306 = .ok (.if_icmp .eq 664, 3) := by decide +kernel
theorem d_L_law_309 : decode code 309 = .ok (.iconst 0, 1) := by decide +kernel
theorem d_L_law_310 : decode code 310 = .ok (.ireturn, 1) := by decide +kernel
theorem d_L_law_311 : decode code 311 = .ok (.aload_n 1, 1) := by decide +kernel
theorem d_L_law_312 : decode code 312 = .ok (.aload_n 0, 1) := by decide +kernel
theorem d_L_law_313 : decode code 313 = .ok (.iload_n 3, 1) := by decide +kernel
theorem d_L_law_314 : decode code 314 = .ok (.iconst 1, 1) := by decide +kernel
theorem d_L_law_315 : decode code 315 = .ok (.iadd, 1) := by decide +kernel
theorem d_L_law_316 : decode code 316 = .ok (.iaload, 1) := by decide +kernel
theorem d_L_law_317 : decode code 317 = .ok (.aload_n 0, 1) := by decide +kernel
theorem d_L_law_318 : decode code 318 = .ok (.iload_n 3, 1) := by decide +kernel
theorem d_L_law_319 : decode code 319 = .ok (.iconst 2, 1) := by decide +kernel
theorem d_L_law_320 : decode code 320 = .ok (.iadd, 1) := by decide +kernel
theorem d_L_law_321 : decode code 321 = .ok (.iaload, 1) := by decide +kernel
theorem d_L_law_322 : decode code 322 = .ok (.invokevirtual 30, 3) := by decide +kernel
theorem d_L_law_325 : decode code 325 = .ok (.aload_n 2, 1) := by decide +kernel
theorem d_L_law_326 : decode code 326 = .ok (.aload_n 0, 1) := by decide +kernel
theorem d_L_law_327 : decode code 327 = .ok (.iload_n 3, 1) := by decide +kernel
theorem d_L_law_328 : decode code 328 = .ok (.iconst 1, 1) := by decide +kernel
theorem d_L_law_329 : decode code 329 = .ok (.iadd, 1) := by decide +kernel
theorem d_L_law_330 : decode code 330 = .ok (.iaload, 1) := by decide +kernel
theorem d_L_law_331 : decode code 331 = .ok (.aload_n 0, 1) := by decide +kernel
theorem d_L_law_332 : decode code 332 = .ok (.iload_n 3, 1) := by decide +kernel
theorem d_L_law_333 : decode code 333 = .ok (.iconst 2, 1) := by decide +kernel
theorem d_L_law_334 : decode code 334 = .ok (.iadd, 1) := by decide +kernel
theorem d_L_law_335 : decode code 335 = .ok (.iaload, 1) := by decide +kernel
theorem d_L_law_336 : decode code 336 = .ok (.invokevirtual 34, 3) := by decide +kernel
theorem d_L_law_339 : decode code 339 = .ok (.if_icmp .eq 631, 3) := by decide +kernel
theorem d_L_law_342 : decode code 342 = .ok (.iconst 0, 1) := by decide +kernel
theorem d_L_law_343 : decode code 343 = .ok (.ireturn, 1) := by decide +kernel
theorem d_L_law_344 : decode code 344 = .ok (.aload_n 1, 1) := by decide +kernel
theorem d_L_law_345 : decode code 345 = .ok (.aload_n 0, 1) := by decide +kernel
theorem d_L_law_346 : decode code 346 = .ok (.iload_n 3, 1) := by decide +kernel
theorem d_L_law_347 : decode code 347 = .ok (.iconst 1, 1) := by decide +kernel
theorem d_L_law_348 : decode code 348 = .ok (.iadd, 1) := by decide +kernel
theorem d_L_law_349 : decode code 349 = .ok (.iaload, 1) := by decide +kernel
theorem d_L_law_350 : decode code 350 = .ok (.aload_n 0, 1) := by decide +kernel
theorem d_L_law_351 : decode code 351 = .ok (.iload_n 3, 1) := by decide +kernel
theorem d_L_law_352 : decode code 352 = .ok (.iconst 2, 1) := by decide +kernel
theorem d_L_law_353 : decode code 353 = .ok (.iadd, 1) := by decide +kernel
theorem d_L_law_354 : decode code 354 = .ok (.iaload, 1) := by decide +kernel
theorem d_L_law_355 : decode code 355 = .ok (.invokevirtual 35, 3) := by decide +kernel
theorem d_L_law_358 : decode code 358 = .ok (.aload_n 2, 1) := by decide +kernel
theorem d_L_law_359 : decode code 359 = .ok (.aload_n 0, 1) := by decide +kernel
theorem d_L_law_360 : decode code 360 = .ok (.iload_n 3, 1) := by decide +kernel
theorem d_L_law_361 : decode code 361 = .ok (.iconst 1, 1) := by decide +kernel
theorem d_L_law_362 : decode code 362 = .ok (.iadd, 1) := by decide +kernel
theorem d_L_law_363 : decode code 363 = .ok (.iaload, 1) := by decide +kernel
theorem d_L_law_364 : decode code 364 = .ok (.aload_n 0, 1) := by decide +kernel
theorem d_L_law_365 : decode code 365 = .ok (.iload_n 3, 1) := by decide +kernel
theorem d_L_law_366 : decode code 366 = .ok (.iconst 2, 1) := by decide +kernel
theorem d_L_law_367 : decode code 367 = .ok (.iadd, 1) := by decide +kernel
theorem d_L_law_368 : decode code 368 = .ok (.iaload, 1) := by decide +kernel
theorem d_L_law_369 : decode code 369 = .ok (.invokevirtual 38, 3) := by decide +kernel
theorem d_L_law_372 : decode code 372 = .ok (.if_icmp .eq 598, 3) := by decide +kernel
theorem d_L_law_375 : decode code 375 = .ok (.iconst 0, 1) := by decide +kernel
theorem d_L_law_376 : decode code 376 = .ok (.ireturn, 1) := by decide +kernel
theorem d_L_law_377 : decode code 377 = .ok (.aload_n 1, 1) := by decide +kernel
theorem d_L_law_378 : decode code 378 = .ok (.aload_n 0, 1) := by decide +kernel
theorem d_L_law_379 : decode code 379 = .ok (.iload_n 3, 1) := by decide +kernel
theorem d_L_law_380 : decode code 380 = .ok (.iconst 1, 1) := by decide +kernel
theorem d_L_law_381 : decode code 381 = .ok (.iadd, 1) := by decide +kernel
theorem d_L_law_382 : decode code 382 = .ok (.iaload, 1) := by decide +kernel
theorem d_L_law_383 : decode code 383 = .ok (.invokevirtual 39, 3) := by decide +kernel
theorem d_L_law_386 : decode code 386 = .ok (.aload_n 2, 1) := by decide +kernel
theorem d_L_law_387 : decode code 387 = .ok (.aload_n 0, 1) := by decide +kernel
theorem d_L_law_388 : decode code 388 = .ok (.iload_n 3, 1) := by decide +kernel
theorem d_L_law_389 : decode code 389 = .ok (.iconst 1, 1) := by decide +kernel
theorem d_L_law_390 : decode code 390 = .ok (.iadd, 1) := by decide +kernel
theorem d_L_law_391 : decode code 391 = .ok (.iaload, 1) := by decide +kernel
theorem d_L_law_392 : decode code 392 = .ok (.invokevirtual 43, 3) := by decide +kernel
theorem d_L_law_395 : decode code 395 = .ok (.lcmp, 1) := by decide +kernel
theorem d_L_law_396 : decode code 396 = .ok (.ifCond .eq 574, 3) := by decide +kernel
theorem d_L_law_399 : decode code 399 = .ok (.iconst 0, 1) := by decide +kernel
theorem d_L_law_400 : decode code 400 = .ok (.ireturn, 1) := by decide +kernel
theorem d_L_law_401 : decode code 401 = .ok (.aload_n 1, 1) := by decide +kernel
theorem d_L_law_402 : decode code 402 = .ok (.aload_n 0, 1) := by decide +kernel
theorem d_L_law_403 : decode code 403 = .ok (.iload_n 3, 1) := by decide +kernel
theorem d_L_law_404 : decode code 404 = .ok (.iconst 1, 1) := by decide +kernel
theorem d_L_law_405 : decode code 405 = .ok (.iadd, 1) := by decide +kernel
theorem d_L_law_406 : decode code 406 = .ok (.iaload, 1) := by decide +kernel
theorem d_L_law_407 : decode code 407 = .ok (.aload_n 0, 1) := by decide +kernel
theorem d_L_law_408 : decode code 408 = .ok (.iload_n 3, 1) := by decide +kernel
theorem d_L_law_409 : decode code 409 = .ok (.iconst 2, 1) := by decide +kernel
theorem d_L_law_410 : decode code 410 = .ok (.iadd, 1) := by decide +kernel
theorem d_L_law_411 : decode code 411 = .ok (.iaload, 1) := by decide +kernel
theorem d_L_law_412 : decode code 412 = .ok (.aload_n 0, 1) := by decide +kernel
theorem d_L_law_413 : decode code 413 = .ok (.iload_n 3, 1) := by decide +kernel
theorem d_L_law_414 : decode code 414 = .ok (.iconst 3, 1) := by decide +kernel
theorem d_L_law_415 : decode code 415 = .ok (.iadd, 1) := by decide +kernel
theorem d_L_law_416 : decode code 416 = .ok (.iaload, 1) := by decide +kernel
theorem d_L_law_417 : decode code 417 = .ok (.aload_n 0, 1) := by decide +kernel
theorem d_L_law_418 : decode code 418 = .ok (.iload_n 3, 1) := by decide +kernel
theorem d_L_law_419 : decode code 419 = .ok (.iconst 4, 1) := by decide +kernel
theorem d_L_law_420 : decode code 420 = .ok (.iadd, 1) := by decide +kernel
theorem d_L_law_421 : decode code 421 = .ok (.iaload, 1) := by decide +kernel
theorem d_L_law_422 : decode code 422 = .ok (.i2l, 1) := by decide +kernel
theorem d_L_law_423 : decode code 423 = .ok (.bipush 32, 2) := by decide +kernel
theorem d_L_law_425 : decode code 425 = .ok (.lshl, 1) := by decide +kernel
theorem d_L_law_426 : decode code 426 = .ok (.aload_n 0, 1) := by decide +kernel
theorem d_L_law_427 : decode code 427 = .ok (.iload_n 3, 1) := by decide +kernel
theorem d_L_law_428 : decode code 428 = .ok (.iconst 5, 1) := by decide +kernel
theorem d_L_law_429 : decode code 429 = .ok (.iadd, 1) := by decide +kernel
theorem d_L_law_430 : decode code 430 = .ok (.iaload, 1) := by decide +kernel
theorem d_L_law_431 : decode code 431 = .ok (.i2l, 1) := by decide +kernel
theorem d_L_law_432 : decode code 432 = .ok (.ldc2_w 18, 3) := by decide +kernel
theorem d_L_law_435 : decode code 435 = .ok (.land, 1) := by decide +kernel
theorem d_L_law_436 : decode code 436 = .ok (.lor, 1) := by decide +kernel
theorem d_L_law_437 : decode code 437 = .ok (.aload_n 0, 1) := by decide +kernel
theorem d_L_law_438 : decode code 438 = .ok (.iload_n 3, 1) := by decide +kernel
theorem d_L_law_439 : decode code 439 = .ok (.bipush 6, 2) := by decide +kernel
theorem d_L_law_441 : decode code 441 = .ok (.iadd, 1) := by decide +kernel
theorem d_L_law_442 : decode code 442 = .ok (.iaload, 1) := by decide +kernel
theorem d_L_law_443 : decode code 443 = .ok (.invokevirtual 44, 3) := by decide +kernel
theorem d_L_law_446 : decode code 446 = .ok (.aload_n 2, 1) := by decide +kernel
theorem d_L_law_447 : decode code 447 = .ok (.aload_n 0, 1) := by decide +kernel
theorem d_L_law_448 : decode code 448 = .ok (.iload_n 3, 1) := by decide +kernel
theorem d_L_law_449 : decode code 449 = .ok (.iconst 1, 1) := by decide +kernel
theorem d_L_law_450 : decode code 450 = .ok (.iadd, 1) := by decide +kernel
theorem d_L_law_451 : decode code 451 = .ok (.iaload, 1) := by decide +kernel
theorem d_L_law_452 : decode code 452 = .ok (.aload_n 0, 1) := by decide +kernel
theorem d_L_law_453 : decode code 453 = .ok (.iload_n 3, 1) := by decide +kernel
theorem d_L_law_454 : decode code 454 = .ok (.iconst 2, 1) := by decide +kernel
theorem d_L_law_455 : decode code 455 = .ok (.iadd, 1) := by decide +kernel
theorem d_L_law_456 : decode code 456 = .ok (.iaload, 1) := by decide +kernel
theorem d_L_law_457 : decode code 457 = .ok (.aload_n 0, 1) := by decide +kernel
theorem d_L_law_458 : decode code 458 = .ok (.iload_n 3, 1) := by decide +kernel
theorem d_L_law_459 : decode code 459 = .ok (.iconst 3, 1) := by decide +kernel
theorem d_L_law_460 : decode code 460 = .ok (.iadd, 1) := by decide +kernel
theorem d_L_law_461 : decode code 461 = .ok (.iaload, 1) := by decide +kernel
theorem d_L_law_462 : decode code 462 = .ok (.aload_n 0, 1) := by decide +kernel
theorem d_L_law_463 : decode code 463 = .ok (.iload_n 3, 1) := by decide +kernel
theorem d_L_law_464 : decode code 464 = .ok (.iconst 4, 1) := by decide +kernel
theorem d_L_law_465 : decode code 465 = .ok (.iadd, 1) := by decide +kernel
theorem d_L_law_466 : decode code 466 = .ok (.iaload, 1) := by decide +kernel
theorem d_L_law_467 : decode code 467 = .ok (.i2l, 1) := by decide +kernel
theorem d_L_law_468 : decode code 468 = .ok (.bipush 32, 2) := by decide +kernel
theorem d_L_law_470 : decode code 470 = .ok (.lshl, 1) := by decide +kernel
theorem d_L_law_471 : decode code 471 = .ok (.aload_n 0, 1) := by decide +kernel
theorem d_L_law_472 : decode code 472 = .ok (.iload_n 3, 1) := by decide +kernel
theorem d_L_law_473 : decode code 473 = .ok (.iconst 5, 1) := by decide +kernel
theorem d_L_law_474 : decode code 474 = .ok (.iadd, 1) := by decide +kernel
theorem d_L_law_475 : decode code 475 = .ok (.iaload, 1) := by decide +kernel
theorem d_L_law_476 : decode code 476 = .ok (.i2l, 1) := by decide +kernel
theorem d_L_law_477 : decode code 477 = .ok (.ldc2_w 18, 3) := by decide +kernel
theorem d_L_law_480 : decode code 480 = .ok (.land, 1) := by decide +kernel
theorem d_L_law_481 : decode code 481 = .ok (.lor, 1) := by decide +kernel
theorem d_L_law_482 : decode code 482 = .ok (.aload_n 0, 1) := by decide +kernel
theorem d_L_law_483 : decode code 483 = .ok (.iload_n 3, 1) := by decide +kernel
theorem d_L_law_484 : decode code 484 = .ok (.bipush 6, 2) := by decide +kernel
theorem d_L_law_486 : decode code 486 = .ok (.iadd, 1) := by decide +kernel
theorem d_L_law_487 : decode code 487 = .ok (.iaload, 1) := by decide +kernel
theorem d_L_law_488 : decode code 488 = .ok (.invokevirtual 48, 3) := by decide +kernel
theorem d_L_law_491 : decode code 491 = .ok (.if_icmp .eq 479, 3) := by decide +kernel
theorem d_L_law_494 : decode code 494 = .ok (.iconst 0, 1) := by decide +kernel
theorem d_L_law_495 : decode code 495 = .ok (.ireturn, 1) := by decide +kernel
theorem d_L_law_496 : decode code 496 = .ok (.aload_n 1, 1) := by decide +kernel
theorem d_L_law_497 : decode code 497 = .ok (.aload_n 0, 1) := by decide +kernel
theorem d_L_law_498 : decode code 498 = .ok (.iload_n 3, 1) := by decide +kernel
theorem d_L_law_499 : decode code 499 = .ok (.iconst 1, 1) := by decide +kernel
theorem d_L_law_500 : decode code 500 = .ok (.iadd, 1) := by decide +kernel
theorem d_L_law_501 : decode code 501 = .ok (.iaload, 1) := by decide +kernel
theorem d_L_law_502 : decode code 502 = .ok (.aload_n 0, 1) := by decide +kernel
theorem d_L_law_503 : decode code 503 = .ok (.iload_n 3, 1) := by decide +kernel
theorem d_L_law_504 : decode code 504 = .ok (.iconst 2, 1) := by decide +kernel
theorem d_L_law_505 : decode code 505 = .ok (.iadd, 1) := by decide +kernel
theorem d_L_law_506 : decode code 506 = .ok (.iaload, 1) := by decide +kernel
theorem d_L_law_507 : decode code 507 = .ok (.invokevirtual 49, 3) := by decide +kernel
theorem d_L_law_510 : decode code 510 = .ok (.aload_n 2, 1) := by decide +kernel
theorem d_L_law_511 : decode code 511 = .ok (.aload_n 0, 1) := by decide +kernel
theorem d_L_law_512 : decode code 512 = .ok (.iload_n 3, 1) := by decide +kernel
theorem d_L_law_513 : decode code 513 = .ok (.iconst 1, 1) := by decide +kernel
theorem d_L_law_514 : decode code 514 = .ok (.iadd, 1) := by decide +kernel
theorem d_L_law_515 : decode code 515 = .ok (.iaload, 1) := by decide +kernel
theorem d_L_law_516 : decode code 516 = .ok (.aload_n 0, 1) := by decide +kernel
theorem d_L_law_517 : decode code 517 = .ok (.iload_n 3, 1) := by decide +kernel
theorem d_L_law_518 : decode code 518 = .ok (.iconst 2, 1) := by decide +kernel
theorem d_L_law_519 : decode code 519 = .ok (.iadd, 1) := by decide +kernel
theorem d_L_law_520 : decode code 520 = .ok (.iaload, 1) := by decide +kernel
theorem d_L_law_521 : decode code 521 = .ok (.invokevirtual 52, 3) := by decide +kernel
theorem d_L_law_524 : decode code 524 = .ok (.if_icmp .eq 446, 3) := by decide +kernel
theorem d_L_law_527 : decode code 527 = .ok (.iconst 0, 1) := by decide +kernel
theorem d_L_law_528 : decode code 528 = .ok (.ireturn, 1) := by decide +kernel
theorem d_L_law_529 : decode code 529 = .ok (.aload_n 1, 1) := by decide +kernel
theorem d_L_law_530 : decode code 530 = .ok (.aload_n 0, 1) := by decide +kernel
theorem d_L_law_531 : decode code 531 = .ok (.iload_n 3, 1) := by decide +kernel
theorem d_L_law_532 : decode code 532 = .ok (.iconst 1, 1) := by decide +kernel
end
section
theorem d_L_law_533 : decode code 533 = .ok (.iadd, 1) := by decide +kernel
theorem d_L_law_534 : decode code 534 = .ok (.iaload, 1) := by decide +kernel
theorem d_L_law_535 : decode code 535 = .ok (.aload_n 0, 1) := by decide +kernel
theorem d_L_law_536 : decode code 536 = .ok (.iload_n 3, 1) := by decide +kernel
theorem d_L_law_537 : decode code 537 = .ok (.iconst 2, 1) := by decide +kernel
theorem d_L_law_538 : decode code 538 = .ok (.iadd, 1) := by decide +kernel
theorem d_L_law_539 : decode code 539 = .ok (.iaload, 1) := by decide +kernel
theorem d_L_law_540 : decode code 540 = .ok (.i2l, 1) := by decide +kernel
theorem d_L_law_541 : decode code 541 = .ok (.bipush 32, 2) := by decide +kernel
theorem d_L_law_543 : decode code 543 = .ok (.lshl, 1) := by decide +kernel
theorem d_L_law_544 : decode code 544 = .ok (.aload_n 0, 1) := by decide +kernel
theorem d_L_law_545 : decode code 545 = .ok (.iload_n 3, 1) := by decide +kernel
theorem d_L_law_546 : decode code 546 = .ok (.iconst 3, 1) := by decide +kernel
theorem d_L_law_547 : decode code 547 = .ok (.iadd, 1) := by decide +kernel
theorem d_L_law_548 : decode code 548 = .ok (.iaload, 1) := by decide +kernel
theorem d_L_law_549 : decode code 549 = .ok (.i2l, 1) := by decide +kernel
theorem d_L_law_550 : decode code 550 = .ok (.ldc2_w 18, 3) := by decide +kernel
theorem d_L_law_553 : decode code 553 = .ok (.land, 1) := by decide +kernel
theorem d_L_law_554 : decode code 554 = .ok (.lor, 1) := by decide +kernel
theorem d_L_law_555 : decode code 555 = .ok (.aload_n 0, 1) := by decide +kernel
theorem d_L_law_556 : decode code 556 = .ok (.iload_n 3, 1) := by decide +kernel
theorem d_L_law_557 : decode code 557 = .ok (.iconst 4, 1) := by decide +kernel
theorem d_L_law_558 : decode code 558 = .ok (.iadd, 1) := by decide +kernel
theorem d_L_law_559 : decode code 559 = .ok (.iaload, 1) := by decide +kernel
theorem d_L_law_560 : decode code 560 = .ok (.ifCond .eq 7, 3) := by decide +kernel
theorem d_L_law_563 : decode code 563 = .ok (.iconst 1, 1) := by decide +kernel
theorem d_L_law_564 : decode code 564 = .ok (.goto 4, 3) := by decide +kernel
theorem d_L_law_567 : decode code 567 = .ok (.iconst 0, 1) := by decide +kernel
theorem d_L_law_568 : decode code 568 = .ok (.invokevirtual 53, 3) := by decide +kernel
theorem d_L_law_571 : decode code 571 = .ok (.aload_n 2, 1) := by decide +kernel
theorem d_L_law_572 : decode code 572 = .ok (.aload_n 0, 1) := by decide +kernel
theorem d_L_law_573 : decode code 573 = .ok (.iload_n 3, 1) := by decide +kernel
theorem d_L_law_574 : decode code 574 = .ok (.iconst 1, 1) := by decide +kernel
theorem d_L_law_575 : decode code 575 = .ok (.iadd, 1) := by decide +kernel
theorem d_L_law_576 : decode code 576 = .ok (.iaload, 1) := by decide +kernel
theorem d_L_law_577 : decode code 577 = .ok (.aload_n 0, 1) := by decide +kernel
theorem d_L_law_578 : decode code 578 = .ok (.iload_n 3, 1) := by decide +kernel
theorem d_L_law_579 : decode code 579 = .ok (.iconst 2, 1) := by decide +kernel
theorem d_L_law_580 : decode code 580 = .ok (.iadd, 1) := by decide +kernel
theorem d_L_law_581 : decode code 581 = .ok (.iaload, 1) := by decide +kernel
theorem d_L_law_582 : decode code 582 = .ok (.i2l, 1) := by decide +kernel
theorem d_L_law_583 : decode code 583 = .ok (.bipush 32, 2) := by decide +kernel
theorem d_L_law_585 : decode code 585 = .ok (.lshl, 1) := by decide +kernel
theorem d_L_law_586 : decode code 586 = .ok (.aload_n 0, 1) := by decide +kernel
theorem d_L_law_587 : decode code 587 = .ok (.iload_n 3, 1) := by decide +kernel
theorem d_L_law_588 : decode code 588 = .ok (.iconst 3, 1) := by decide +kernel
theorem d_L_law_589 : decode code 589 = .ok (.iadd, 1) := by decide +kernel
theorem d_L_law_590 : decode code 590 = .ok (.iaload, 1) := by decide +kernel
theorem d_L_law_591 : decode code 591 = .ok (.i2l, 1) := by decide +kernel
theorem d_L_law_592 : decode code 592 = .ok (.ldc2_w 18, 3) := by decide +kernel
theorem d_L_law_595 : decode code 595 = .ok (.land, 1) := by decide +kernel
theorem d_L_law_596 : decode code 596 = .ok (.lor, 1) := by decide +kernel
theorem d_L_law_597 : decode code 597 = .ok (.aload_n 0, 1) := by decide +kernel
theorem d_L_law_598 : decode code 598 = .ok (.iload_n 3, 1) := by decide +kernel
theorem d_L_law_599 : decode code 599 = .ok (.iconst 4, 1) := by decide +kernel
theorem d_L_law_600 : decode code 600 = .ok (.iadd, 1) := by decide +kernel
theorem d_L_law_601 : decode code 601 = .ok (.iaload, 1) := by decide +kernel
theorem d_L_law_602 : decode code 602 = .ok (.ifCond .eq 7, 3) := by decide +kernel
theorem d_L_law_605 : decode code 605 = .ok (.iconst 1, 1) := by decide +kernel
theorem d_L_law_606 : decode code 606 = .ok (.goto 4, 3) := by decide +kernel
theorem d_L_law_609 : decode code 609 = .ok (.iconst 0, 1) := by decide +kernel
theorem d_L_law_610 : decode code 610 = .ok (.invokevirtual 56, 3) := by decide +kernel
theorem d_L_law_613 : decode code 613 = .ok (.if_icmp .eq 357, 3) := by decide +kernel
theorem d_L_law_616 : decode code 616 = .ok (.iconst 0, 1) := by decide +kernel
theorem d_L_law_617 : decode code 617 = .ok (.ireturn, 1) := by decide +kernel
theorem d_L_law_618 : decode code 618 = .ok (.aload_n 1, 1) := by decide +kernel
theorem d_L_law_619 : decode code 619 = .ok (.aload_n 0, 1) := by decide +kernel
theorem d_L_law_620 : decode code 620 = .ok (.iload_n 3, 1) := by decide +kernel
theorem d_L_law_621 : decode code 621 = .ok (.iconst 1, 1) := by decide +kernel
theorem d_L_law_622 : decode code 622 = .ok (.iadd, 1) := by decide +kernel
theorem d_L_law_623 : decode code 623 = .ok (.iaload, 1) := by decide +kernel
theorem d_L_law_624 : decode code 624 = .ok (.aload_n 0, 1) := by decide +kernel
theorem d_L_law_625 : decode code 625 = .ok (.iload_n 3, 1) := by decide +kernel
theorem d_L_law_626 : decode code 626 = .ok (.iconst 2, 1) := by decide +kernel
theorem d_L_law_627 : decode code 627 = .ok (.iadd, 1) := by decide +kernel
theorem d_L_law_628 : decode code 628 = .ok (.iaload, 1) := by decide +kernel
theorem d_L_law_629 : decode code 629 = .ok (.aload_n 0, 1) := by decide +kernel
theorem d_L_law_630 : decode code 630 = .ok (.iload_n 3, 1) := by decide +kernel
theorem d_L_law_631 : decode code 631 = .ok (.iconst 3, 1) := by decide +kernel
theorem d_L_law_632 : decode code 632 = .ok (.iadd, 1) := by decide +kernel
theorem d_L_law_633 : decode code 633 = .ok (.iaload, 1) := by decide +kernel
theorem d_L_law_634 : decode code 634 = .ok (.invokevirtual 57, 3) := by decide +kernel
theorem d_L_law_637 : decode code 637 = .ok (.aload_n 2, 1) := by decide +kernel
theorem d_L_law_638 : decode code 638 = .ok (.aload_n 0, 1) := by decide +kernel
theorem d_L_law_639 : decode code 639 = .ok (.iload_n 3, 1) := by decide +kernel
theorem d_L_law_640 : decode code 640 = .ok (.iconst 1, 1) := by decide +kernel
theorem d_L_law_641 : decode code 641 = .ok (.iadd, 1) := by decide +kernel
theorem d_L_law_642 : decode code 642 = .ok (.iaload, 1) := by decide +kernel
theorem d_L_law_643 : decode code 643 = .ok (.aload_n 0, 1) := by decide +kernel
theorem d_L_law_644 : decode code 644 = .ok (.iload_n 3, 1) := by decide +kernel
theorem d_L_law_645 : decode code 645 = .ok (.iconst 2, 1) := by decide +kernel
theorem d_L_law_646 : decode code 646 = .ok (.iadd, 1) := by decide +kernel
theorem d_L_law_647 : decode code 647 = .ok (.iaload, 1) := by decide +kernel
theorem d_L_law_648 : decode code 648 = .ok (.aload_n 0, 1) := by decide +kernel
theorem d_L_law_649 : decode code 649 = .ok (.iload_n 3, 1) := by decide +kernel
theorem d_L_law_650 : decode code 650 = .ok (.iconst 3, 1) := by decide +kernel
theorem d_L_law_651 : decode code 651 = .ok (.iadd, 1) := by decide +kernel
theorem d_L_law_652 : decode code 652 = .ok (.iaload, 1) := by decide +kernel
theorem d_L_law_653 : decode code 653 = .ok (.invokevirtual 61, 3) := by decide +kernel
theorem d_L_law_656 : decode code 656 = .ok (.if_icmp .eq 314, 3) := by decide +kernel
theorem d_L_law_659 : decode code 659 = .ok (.iconst 0, 1) := by decide +kernel
theorem d_L_law_660 : decode code 660 = .ok (.ireturn, 1) := by decide +kernel
theorem d_L_law_661 : decode code 661 = .ok (.aload_n 1, 1) := by decide +kernel
theorem d_L_law_662 : decode code 662 = .ok (.invokevirtual 62, 3) := by decide +kernel
theorem d_L_law_665 : decode code 665 = .ok (.aload_n 2, 1) := by decide +kernel
theorem d_L_law_666 : decode code 666 = .ok (.invokevirtual 66, 3) := by decide +kernel
theorem d_L_law_669 : decode code 669 = .ok (.if_icmp .eq 301, 3) := by decide +kernel
theorem d_L_law_672 : decode code 672 = .ok (.iconst 0, 1) := by decide +kernel
theorem d_L_law_673 : decode code 673 = .ok (.ireturn, 1) := by decide +kernel
theorem d_L_law_674 : decode code 674 = .ok (.aload_n 1, 1) := by decide +kernel
theorem d_L_law_675 : decode code 675 = .ok (.aload_n 0, 1) := by decide +kernel
theorem d_L_law_676 : decode code 676 = .ok (.iload_n 3, 1) := by decide +kernel
theorem d_L_law_677 : decode code 677 = .ok (.iconst 1, 1) := by decide +kernel
theorem d_L_law_678 : decode code 678 = .ok (.iadd, 1) := by decide +kernel
theorem d_L_law_679 : decode code 679 = .ok (.iaload, 1) := by decide +kernel
theorem d_L_law_680 : decode code 680 = .ok (.invokevirtual 67, 3) := by decide +kernel
theorem d_L_law_683 : decode code 683 = .ok (.aload_n 2, 1) := by decide +kernel
theorem d_L_law_684 : decode code 684 = .ok (.aload_n 0, 1) := by decide +kernel
theorem d_L_law_685 : decode code 685 = .ok (.iload_n 3, 1) := by decide +kernel
theorem d_L_law_686 : decode code 686 = .ok (.iconst 1, 1) := by decide +kernel
theorem d_L_law_687 : decode code 687 = .ok (.iadd, 1) := by decide +kernel
theorem d_L_law_688 : decode code 688 = .ok (.iaload, 1) := by decide +kernel
theorem d_L_law_689 : decode code 689 = .ok (.invokevirtual 70, 3) := by decide +kernel
theorem d_L_law_692 : decode code 692 = .ok (.if_icmp .eq 278, 3) := by decide +kernel
theorem d_L_law_695 : decode code 695 = .ok (.iconst 0, 1) := by decide +kernel
theorem d_L_law_696 : decode code 696 = .ok (.ireturn, 1) := by decide +kernel
theorem d_L_law_697 : decode code 697 = .ok (.aload_n 1, 1) := by decide +kernel
theorem d_L_law_698 : decode code 698 = .ok (.aload_n 0, 1) := by decide +kernel
theorem d_L_law_699 : decode code 699 = .ok (.iload_n 3, 1) := by decide +kernel
theorem d_L_law_700 : decode code 700 = .ok (.iconst 1, 1) := by decide +kernel
theorem d_L_law_701 : decode code 701 = .ok (.iadd, 1) := by decide +kernel
theorem d_L_law_702 : decode code 702 = .ok (.iaload, 1) := by decide +kernel
theorem d_L_law_703 : decode code 703 = .ok (.aload_n 0, 1) := by decide +kernel
theorem d_L_law_704 : decode code 704 = .ok (.iload_n 3, 1) := by decide +kernel
theorem d_L_law_705 : decode code 705 = .ok (.iconst 2, 1) := by decide +kernel
theorem d_L_law_706 : decode code 706 = .ok (.iadd, 1) := by decide +kernel
theorem d_L_law_707 : decode code 707 = .ok (.iaload, 1) := by decide +kernel
theorem d_L_law_708 : decode code 708 = .ok (.aload_n 0, 1) := by decide +kernel
theorem d_L_law_709 : decode code 709 = .ok (.iload_n 3, 1) := by decide +kernel
theorem d_L_law_710 : decode code 710 = .ok (.iconst 3, 1) := by decide +kernel
theorem d_L_law_711 : decode code 711 = .ok (.iadd, 1) := by decide +kernel
theorem d_L_law_712 : decode code 712 = .ok (.iaload, 1) := by decide +kernel
theorem d_L_law_713 : decode code 713 = .ok (.invokevirtual 71, 3) := by decide +kernel
theorem d_L_law_716 : decode code 716 = .ok (.aload_n 2, 1) := by decide +kernel
theorem d_L_law_717 : decode code 717 = .ok (.aload_n 0, 1) := by decide +kernel
theorem d_L_law_718 : decode code 718 = .ok (.iload_n 3, 1) := by decide +kernel
theorem d_L_law_719 : decode code 719 = .ok (.iconst 1, 1) := by decide +kernel
theorem d_L_law_720 : decode code 720 = .ok (.iadd, 1) := by decide +kernel
theorem d_L_law_721 : decode code 721 = .ok (.iaload, 1) := by decide +kernel
theorem d_L_law_722 : decode code 722 = .ok (.aload_n 0, 1) := by decide +kernel
theorem d_L_law_723 : decode code 723 = .ok (.iload_n 3, 1) := by decide +kernel
theorem d_L_law_724 : decode code 724 = .ok (.iconst 2, 1) := by decide +kernel
theorem d_L_law_725 : decode code 725 = .ok (.iadd, 1) := by decide +kernel
theorem d_L_law_726 : decode code 726 = .ok (.iaload, 1) := by decide +kernel
theorem d_L_law_727 : decode code 727 = .ok (.aload_n 0, 1) := by decide +kernel
theorem d_L_law_728 : decode code 728 = .ok (.iload_n 3, 1) := by decide +kernel
theorem d_L_law_729 : decode code 729 = .ok (.iconst 3, 1) := by decide +kernel
theorem d_L_law_730 : decode code 730 = .ok (.iadd, 1) := by decide +kernel
theorem d_L_law_731 : decode code 731 = .ok (.iaload, 1) := by decide +kernel
theorem d_L_law_732 : decode code 732 = .ok (.invokevirtual 74, 3) := by decide +kernel
theorem d_L_law_735 : decode code 735 = .ok (.if_icmp .eq 235, 3) := by decide +kernel
theorem d_L_law_738 : decode code 738 = .ok (.iconst 0, 1) := by decide +kernel
theorem d_L_law_739 : decode code 739 = .ok (.ireturn, 1) := by decide +kernel
theorem d_L_law_740 : decode code 740 = .ok (.aload_n 1, 1) := by decide +kernel
theorem d_L_law_741 : decode code 741 = .ok (.aload_n 0, 1) := by decide +kernel
theorem d_L_law_742 : decode code 742 = .ok (.iload_n 3, 1) := by decide +kernel
theorem d_L_law_743 : decode code 743 = .ok (.iconst 1, 1) := by decide +kernel
theorem d_L_law_744 : decode code 744 = .ok (.iadd, 1) := by decide +kernel
theorem d_L_law_745 : decode code 745 = .ok (.iaload, 1) := by decide +kernel
theorem d_L_law_746 : decode code 746 = .ok (.aload_n 0, 1) := by decide +kernel
theorem d_L_law_747 : decode code 747 = .ok (.iload_n 3, 1) := by decide +kernel
theorem d_L_law_748 : decode code 748 = .ok (.iconst 2, 1) := by decide +kernel
theorem d_L_law_749 : decode code 749 = .ok (.iadd, 1) := by decide +kernel
theorem d_L_law_750 : decode code 750 = .ok (.iaload, 1) := by decide +kernel
theorem d_L_law_751 : decode code 751 = .ok (.invokevirtual 75, 3) := by decide +kernel
theorem d_L_law_754 : decode code 754 = .ok (.aload_n 2, 1) := by decide +kernel
theorem d_L_law_755 : decode code 755 = .ok (.aload_n 0, 1) := by decide +kernel
theorem d_L_law_756 : decode code 756 = .ok (.iload_n 3, 1) := by decide +kernel
theorem d_L_law_757 : decode code 757 = .ok (.iconst 1, 1) := by decide +kernel
theorem d_L_law_758 : decode code 758 = .ok (.iadd, 1) := by decide +kernel
theorem d_L_law_759 : decode code 759 = .ok (.iaload, 1) := by decide +kernel
theorem d_L_law_760 : decode code 760 = .ok (.aload_n 0, 1) := by decide +kernel
theorem d_L_law_761 : decode code 761 = .ok (.iload_n 3, 1) := by decide +kernel
theorem d_L_law_762 : decode code 762 = .ok (.iconst 2, 1) := by decide +kernel
theorem d_L_law_763 : decode code 763 = .ok (.iadd, 1) := by decide +kernel
theorem d_L_law_764 : decode code 764 = .ok (.iaload, 1) := by decide +kernel
theorem d_L_law_765 : decode code 765 = .ok (.invokevirtual 79, 3) := by decide +kernel
theorem d_L_law_768 : decode code 768 = .ok (.lcmp, 1) := by decide +kernel
theorem d_L_law_769 : decode code 769 = .ok (.ifCond .eq 201, 3) := by decide +kernel
theorem d_L_law_772 : decode code 772 = .ok (.iconst 0, 1) := by decide +kernel
theorem d_L_law_773 : decode code 773 = .ok (.ireturn, 1) := by decide +kernel
theorem d_L_law_774 : decode code 774 = .ok (.aload_n 1, 1) := by decide +kernel
theorem d_L_law_775 : decode code 775 = .ok (.aload_n 0, 1) := by decide +kernel
theorem d_L_law_776 : decode code 776 = .ok (.iload_n 3, 1) := by decide +kernel
theorem d_L_law_777 : decode code 777 = .ok (.iconst 1, 1) := by decide +kernel
theorem d_L_law_778 : decode code 778 = .ok (.iadd, 1) := by decide +kernel
theorem d_L_law_779 : decode code 779 = .ok (.iaload, 1) := by decide +kernel
theorem d_L_law_780 : decode code 780 = .ok (.invokevirtual 80, 3) := by decide +kernel
theorem d_L_law_783 : decode code 783 = .ok (.aload_n 2, 1) := by decide +kernel
theorem d_L_law_784 : decode code 784 = .ok (.aload_n 0, 1) := by decide +kernel
theorem d_L_law_785 : decode code 785 = .ok (.iload_n 3, 1) := by decide +kernel
theorem d_L_law_786 : decode code 786 = .ok (.iconst 1, 1) := by decide +kernel
theorem d_L_law_787 : decode code 787 = .ok (.iadd, 1) := by decide +kernel
theorem d_L_law_788 : decode code 788 = .ok (.iaload, 1) := by decide +kernel
theorem d_L_law_789 : decode code 789 = .ok (.invokevirtual 84, 3) := by decide +kernel
theorem d_L_law_792 : decode code 792 = .ok (.if_icmp .eq 178, 3) := by decide +kernel
theorem d_L_law_795 : decode code 795 = .ok (.iconst 0, 1) := by decide +kernel
theorem d_L_law_796 : decode code 796 = .ok (.ireturn, 1) := by decide +kernel
theorem d_L_law_797 : decode code 797 = .ok (.aload_n 1, 1) := by decide +kernel
theorem d_L_law_798 : decode code 798 = .ok (.invokevirtual 85, 3) := by decide +kernel
theorem d_L_law_801 : decode code 801 = .ok (.aload_n 2, 1) := by decide +kernel
theorem d_L_law_802 : decode code 802 = .ok (.invokevirtual 88, 3) := by decide +kernel
theorem d_L_law_805 : decode code 805 = .ok (.goto 165, 3) := by decide +kernel
theorem d_L_law_808 : decode code 808 = .ok (.aload_n 1, 1) := by decide +kernel
theorem d_L_law_809 : decode code 809 = .ok (.aload_n 0, 1) := by decide +kernel
theorem d_L_law_810 : decode code 810 = .ok (.iload_n 3, 1) := by decide +kernel
theorem d_L_law_811 : decode code 811 = .ok (.iconst 1, 1) := by decide +kernel
theorem d_L_law_812 : decode code 812 = .ok (.iadd, 1) := by decide +kernel
theorem d_L_law_813 : decode code 813 = .ok (.iaload, 1) := by decide +kernel
theorem d_L_law_814 : decode code 814 = .ok (.invokevirtual 89, 3) := by decide +kernel
theorem d_L_law_817 : decode code 817 = .ok (.aload_n 2, 1) := by decide +kernel
theorem d_L_law_818 : decode code 818 = .ok (.aload_n 0, 1) := by decide +kernel
theorem d_L_law_819 : decode code 819 = .ok (.iload_n 3, 1) := by decide +kernel
theorem d_L_law_820 : decode code 820 = .ok (.iconst 1, 1) := by decide +kernel
theorem d_L_law_821 : decode code 821 = .ok (.iadd, 1) := by decide +kernel
theorem d_L_law_822 : decode code 822 = .ok (.iaload, 1) := by decide +kernel
theorem d_L_law_823 : decode code 823 = .ok (.invokevirtual 92, 3) := by decide +kernel
theorem d_L_law_826 : decode code 826 = .ok (.if_icmp .eq 144, 3) := by decide +kernel
theorem d_L_law_829 : decode code 829 = .ok (.iconst 0, 1) := by decide +kernel
theorem d_L_law_830 : decode code 830 = .ok (.ireturn, 1) := by decide +kernel
theorem d_L_law_831 : decode code 831 = .ok (.aload_n 1, 1) := by decide +kernel
theorem d_L_law_832 : decode code 832 = .ok (.aload_n 0, 1) := by decide +kernel
theorem d_L_law_833 : decode code 833 = .ok (.iload_n 3, 1) := by decide +kernel
theorem d_L_law_834 : decode code 834 = .ok (.iconst 1, 1) := by decide +kernel
theorem d_L_law_835 : decode code 835 = .ok (.iadd, 1) := by decide +kernel
theorem d_L_law_836 : decode code 836 = .ok (.iaload, 1) := by decide +kernel
theorem d_L_law_837 : decode code 837 = .ok (.invokevirtual 93, 3) := by decide +kernel
theorem d_L_law_840 : decode code 840 = .ok (.aload_n 2, 1) := by decide +kernel
theorem d_L_law_841 : decode code 841 = .ok (.aload_n 0, 1) := by decide +kernel
theorem d_L_law_842 : decode code 842 = .ok (.iload_n 3, 1) := by decide +kernel
theorem d_L_law_843 : decode code 843 = .ok (.iconst 1, 1) := by decide +kernel
theorem d_L_law_844 : decode code 844 = .ok (.iadd, 1) := by decide +kernel
theorem d_L_law_845 : decode code 845 = .ok (.iaload, 1) := by decide +kernel
theorem d_L_law_846 : decode code 846 = .ok (.invokevirtual 96, 3) := by decide +kernel
theorem d_L_law_849 : decode code 849 = .ok (.if_icmp .eq 121, 3) := by decide +kernel
theorem d_L_law_852 : decode code 852 = .ok (.iconst 0, 1) := by decide +kernel
theorem d_L_law_853 : decode code 853 = .ok (.ireturn, 1) := by decide +kernel
theorem d_L_law_854 : decode code 854 = .ok (.aload_n 1, 1) := by decide +kernel
theorem d_L_law_855 : decode code 855 = .ok (.invokevirtual 97, 3) := by decide +kernel
theorem d_L_law_858 : decode code 858 = .ok (.aload_n 2, 1) := by decide +kernel
theorem d_L_law_859 : decode code 859 = .ok (.invokevirtual 100, 3) := by decide +kernel
theorem d_L_law_862 : decode code 862 = .ok (.if_icmp .eq 108, 3) := by decide +kernel
theorem d_L_law_865 : decode code 865 = .ok (.iconst 0, 1) := by decide +kernel
theorem d_L_law_866 : decode code 866 = .ok (.ireturn, 1) := by decide +kernel
theorem d_L_law_867 : decode code 867 = .ok (.aload_n 1, 1) := by decide +kernel
theorem d_L_law_868 : decode code 868 = .ok (.aload_n 0, 1) := by decide +kernel
theorem d_L_law_869 : decode code 869 = .ok (.iload_n 3, 1) := by decide +kernel
theorem d_L_law_870 : decode code 870 = .ok (.iconst 1, 1) := by decide +kernel
theorem d_L_law_871 : decode code 871 = .ok (.iadd, 1) := by decide +kernel
theorem d_L_law_872 : decode code 872 = .ok (.iaload, 1) := by decide +kernel
theorem d_L_law_873 : decode code 873 = .ok (.aload_n 0, 1) := by decide +kernel
theorem d_L_law_874 : decode code 874 = .ok (.iload_n 3, 1) := by decide +kernel
theorem d_L_law_875 : decode code 875 = .ok (.iconst 2, 1) := by decide +kernel
theorem d_L_law_876 : decode code 876 = .ok (.iadd, 1) := by decide +kernel
theorem d_L_law_877 : decode code 877 = .ok (.iaload, 1) := by decide +kernel
theorem d_L_law_878 : decode code 878 = .ok (.invokevirtual 101, 3) := by decide +kernel
theorem d_L_law_881 : decode code 881 = .ok (.aload_n 2, 1) := by decide +kernel
theorem d_L_law_882 : decode code 882 = .ok (.aload_n 0, 1) := by decide +kernel
theorem d_L_law_883 : decode code 883 = .ok (.iload_n 3, 1) := by decide +kernel
theorem d_L_law_884 : decode code 884 = .ok (.iconst 1, 1) := by decide +kernel
theorem d_L_law_885 : decode code 885 = .ok (.iadd, 1) := by decide +kernel
theorem d_L_law_886 : decode code 886 = .ok (.iaload, 1) := by decide +kernel
theorem d_L_law_887 : decode code 887 = .ok (.aload_n 0, 1) := by decide +kernel
theorem d_L_law_888 : decode code 888 = .ok (.iload_n 3, 1) := by decide +kernel
theorem d_L_law_889 : decode code 889 = .ok (.iconst 2, 1) := by decide +kernel
theorem d_L_law_890 : decode code 890 = .ok (.iadd, 1) := by decide +kernel
theorem d_L_law_891 : decode code 891 = .ok (.iaload, 1) := by decide +kernel
theorem d_L_law_892 : decode code 892 = .ok (.invokevirtual 104, 3) := by decide +kernel
theorem d_L_law_895 : decode code 895 = .ok (.if_icmp .eq 75, 3) := by decide +kernel
theorem d_L_law_898 : decode code 898 = .ok (.iconst 0, 1) := by decide +kernel
theorem d_L_law_899 : decode code 899 = .ok (.ireturn, 1) := by decide +kernel
theorem d_L_law_900 : decode code 900 = .ok (.aload_n 1, 1) := by decide +kernel
theorem d_L_law_901 : decode code 901 = .ok (.aload_n 0, 1) := by decide +kernel
theorem d_L_law_902 : decode code 902 = .ok (.iload_n 3, 1) := by decide +kernel
theorem d_L_law_903 : decode code 903 = .ok (.iconst 1, 1) := by decide +kernel
theorem d_L_law_904 : decode code 904 = .ok (.iadd, 1) := by decide +kernel
theorem d_L_law_905 : decode code 905 = .ok (.iaload, 1) := by decide +kernel
theorem d_L_law_906 : decode code 906 = .ok (.invokevirtual 105, 3) := by decide +kernel
theorem d_L_law_909 : decode code 909 = .ok (.aload_n 2, 1) := by decide +kernel
theorem d_L_law_910 : decode code 910 = .ok (.aload_n 0, 1) := by decide +kernel
theorem d_L_law_911 : decode code 911 = .ok (.iload_n 3, 1) := by decide +kernel
theorem d_L_law_912 : decode code 912 = .ok (.iconst 1, 1) := by decide +kernel
theorem d_L_law_913 : decode code 913 = .ok (.iadd, 1) := by decide +kernel
theorem d_L_law_914 : decode code 914 = .ok (.iaload, 1) := by decide +kernel
theorem d_L_law_915 : decode code 915 = .ok (.invokevirtual 108, 3) := by decide +kernel
theorem d_L_law_918 : decode code 918 = .ok (.lcmp, 1) := by decide +kernel
theorem d_L_law_919 : decode code 919 = .ok (.ifCond .eq 51, 3) := by decide +kernel
theorem d_L_law_922 : decode code 922 = .ok (.iconst 0, 1) := by decide +kernel
theorem d_L_law_923 : decode code 923 = .ok (.ireturn, 1) := by decide +kernel
theorem d_L_law_924 : decode code 924 = .ok (.aload_n 1, 1) := by decide +kernel
theorem d_L_law_925 : decode code 925 = .ok (.aload_n 0, 1) := by decide +kernel
theorem d_L_law_926 : decode code 926 = .ok (.iload_n 3, 1) := by decide +kernel
theorem d_L_law_927 : decode code 927 = .ok (.iconst 1, 1) := by decide +kernel
theorem d_L_law_928 : decode code 928 = .ok (.iadd, 1) := by decide +kernel
theorem d_L_law_929 : decode code 929 = .ok (.iaload, 1) := by decide +kernel
theorem d_L_law_930 : decode code 930 = .ok (.invokevirtual 109, 3) := by decide +kernel
theorem d_L_law_933 : decode code 933 = .ok (.aload_n 2, 1) := by decide +kernel
theorem d_L_law_934 : decode code 934 = .ok (.aload_n 0, 1) := by decide +kernel
theorem d_L_law_935 : decode code 935 = .ok (.iload_n 3, 1) := by decide +kernel
theorem d_L_law_936 : decode code 936 = .ok (.iconst 1, 1) := by decide +kernel
theorem d_L_law_937 : decode code 937 = .ok (.iadd, 1) := by decide +kernel
theorem d_L_law_938 : decode code 938 = .ok (.iaload, 1) := by decide +kernel
theorem d_L_law_939 : decode code 939 = .ok (.invokevirtual 112, 3) := by decide +kernel
theorem d_L_law_942 : decode code 942 = .ok (.if_icmp .eq 28, 3) := by decide +kernel
theorem d_L_law_945 : decode code 945 = .ok (.iconst 0, 1) := by decide +kernel
theorem d_L_law_946 : decode code 946 = .ok (.ireturn, 1) := by decide +kernel
theorem d_L_law_947 : decode code 947 = .ok (.aload_n 1, 1) := by decide +kernel
theorem d_L_law_948 : decode code 948 = .ok (.aload_n 0, 1) := by decide +kernel
theorem d_L_law_949 : decode code 949 = .ok (.iload_n 3, 1) := by decide +kernel
theorem d_L_law_950 : decode code 950 = .ok (.iconst 1, 1) := by decide +kernel
theorem d_L_law_951 : decode code 951 = .ok (.iadd, 1) := by decide +kernel
theorem d_L_law_952 : decode code 952 = .ok (.iaload, 1) := by decide +kernel
theorem d_L_law_953 : decode code 953 = .ok (.invokevirtual 113, 3) := by decide +kernel
theorem d_L_law_956 : decode code 956 = .ok (.aload_n 2, 1) := by decide +kernel
theorem d_L_law_957 : decode code 957 = .ok (.aload_n 0, 1) := by decide +kernel
theorem d_L_law_958 : decode code 958 = .ok (.iload_n 3, 1) := by decide +kernel
theorem d_L_law_959 : decode code 959 = .ok (.iconst 1, 1) := by decide +kernel
theorem d_L_law_960 : decode code 960 = .ok (.iadd, 1) := by decide +kernel
theorem d_L_law_961 : decode code 961 = .ok (.iaload, 1) := by decide +kernel
theorem d_L_law_962 : decode code 962 = .ok (.invokevirtual 116, 3) := by decide +kernel
theorem d_L_law_965 : decode code 965 = .ok (.if_icmp .eq 5, 3) := by decide +kernel
theorem d_L_law_968 : decode code 968 = .ok (.iconst 0, 1) := by decide +kernel
theorem d_L_law_969 : decode code 969 = .ok (.ireturn, 1) := by decide +kernel
theorem d_L_law_970 : decode code 970 = .ok (.iinc 3 7, 3) := by decide +kernel
theorem d_L_law_973 : decode code 973 = .ok (.goto (-955), 3) := by decide +kernel
theorem d_L_law_976 : decode code 976 = .ok (.iconst 1, 1) := by decide +kernel
theorem d_L_law_977 : decode code 977 = .ok (.ireturn, 1) := by decide +kernel
end
section
theorem d_M_init_0 : decode prog_8_method_1_code 0 = .ok (.aload_n 0, 1) := by decide +kernel
theorem d_M_init_1 : decode prog_8_method_1_code 1 = .ok (.invokespecial 1, 3) := by decide +kernel
theorem d_M_init_4 : decode prog_8_method_1_code 4 = .ok (.aload_n 0, 1) := by decide +kernel
theorem d_M_init_5 : decode prog_8_method_1_code 5 = .ok (.bipush 16, 2) := by decide +kernel
theorem d_M_init_7 : decode prog_8_method_1_code 7 = .ok (.newarray .int, 2) := by decide +kernel
theorem d_M_init_9 : decode prog_8_method_1_code 9 = .ok (.putfield 7, 3) := by decide +kernel
theorem d_M_init_12 : decode prog_8_method_1_code 12 = .ok (.aload_n 0, 1) := by decide +kernel
theorem d_M_init_13 : decode prog_8_method_1_code 13 = .ok (.sipush 5420, 3) := by decide +kernel
theorem d_M_init_16 : decode prog_8_method_1_code 16 = .ok (.newarray .int, 2) := by decide +kernel
theorem d_M_init_18 : decode prog_8_method_1_code 18 = .ok (.putfield 13, 3) := by decide +kernel
theorem d_M_init_21 : decode prog_8_method_1_code 21 = .ok (.aload_n 0, 1) := by decide +kernel
theorem d_M_init_22 : decode prog_8_method_1_code 22 = .ok (.ldc 16, 2) := by decide +kernel
theorem d_M_init_24 : decode prog_8_method_1_code 24 = .ok (.newarray .boolean, 2) := by decide +kernel
theorem d_M_init_26 : decode prog_8_method_1_code 26 = .ok (.putfield 17, 3) := by decide +kernel
theorem d_M_init_29 : decode prog_8_method_1_code 29 = .ok (.aload_n 0, 1) := by decide +kernel
theorem d_M_init_30 : decode prog_8_method_1_code 30 = .ok (.sipush 300, 3) := by decide +kernel
theorem d_M_init_33 : decode prog_8_method_1_code 33 = .ok (.newarray .int, 2) := by decide +kernel
theorem d_M_init_35 : decode prog_8_method_1_code 35 = .ok (.putfield 21, 3) := by decide +kernel
theorem d_M_init_38 : decode prog_8_method_1_code 38 = .ok (.aload_n 0, 1) := by decide +kernel
theorem d_M_init_39 : decode prog_8_method_1_code 39 = .ok (.sipush 300, 3) := by decide +kernel
theorem d_M_init_42 : decode prog_8_method_1_code 42 = .ok (.newarray .int, 2) := by decide +kernel
theorem d_M_init_44 : decode prog_8_method_1_code 44 = .ok (.putfield 24, 3) := by decide +kernel
theorem d_M_init_47 : decode prog_8_method_1_code 47 = .ok (.aload_n 0, 1) := by decide +kernel
theorem d_M_init_48 : decode prog_8_method_1_code 48 = .ok (.sipush 300, 3) := by decide +kernel
theorem d_M_init_51 : decode prog_8_method_1_code 51 = .ok (.newarray .int, 2) := by decide +kernel
theorem d_M_init_53 : decode prog_8_method_1_code 53 = .ok (.putfield 27, 3) := by decide +kernel
theorem d_M_init_56 : decode prog_8_method_1_code 56 = .ok (.aload_n 0, 1) := by decide +kernel
theorem d_M_init_57 : decode prog_8_method_1_code 57 = .ok (.sipush 300, 3) := by decide +kernel
theorem d_M_init_60 : decode prog_8_method_1_code 60 = .ok (.newarray .int, 2) := by decide +kernel
theorem d_M_init_62 : decode prog_8_method_1_code 62 = .ok (.putfield 30, 3) := by decide +kernel
theorem d_M_init_65 : decode prog_8_method_1_code 65 = .ok (.aload_n 0, 1) := by decide +kernel
theorem d_M_init_66 : decode prog_8_method_1_code 66 = .ok (.sipush 300, 3) := by decide +kernel
theorem d_M_init_69 : decode prog_8_method_1_code 69 = .ok (.newarray .int, 2) := by decide +kernel
theorem d_M_init_71 : decode prog_8_method_1_code 71 = .ok (.putfield 33, 3) := by decide +kernel
theorem d_M_init_74 : decode prog_8_method_1_code 74 = .ok (.aload_n 0, 1) := by decide +kernel
theorem d_M_init_75 : decode prog_8_method_1_code 75 = .ok (.sipush 300, 3) := by decide +kernel
theorem d_M_init_78 : decode prog_8_method_1_code 78 = .ok (.newarray .int, 2) := by decide +kernel
theorem d_M_init_80 : decode prog_8_method_1_code 80 = .ok (.putfield 36, 3) := by decide +kernel
theorem d_M_init_83 : decode prog_8_method_1_code 83 = .ok (.aload_n 0, 1) := by decide +kernel
theorem d_M_init_84 : decode prog_8_method_1_code 84 = .ok (.sipush 300, 3) := by decide +kernel
theorem d_M_init_87 : decode prog_8_method_1_code 87 = .ok (.newarray .long, 2) := by decide +kernel
theorem d_M_init_89 : decode prog_8_method_1_code 89 = .ok (.putfield 39, 3) := by decide +kernel
theorem d_M_init_92 : decode prog_8_method_1_code 92 = .ok (.aload_n 0, 1) := by decide +kernel
theorem d_M_init_93 : decode prog_8_method_1_code 93 = .ok (.sipush 400, 3) := by decide +kernel
theorem d_M_init_96 : decode prog_8_method_1_code 96 = .ok (.newarray .int, 2) := by decide +kernel
theorem d_M_init_98 : decode prog_8_method_1_code 98 = .ok (.putfield 43, 3) := by decide +kernel
theorem d_M_init_101 : decode prog_8_method_1_code 101 = .ok (.aload_n 0, 1) := by decide +kernel
theorem d_M_init_102 : decode prog_8_method_1_code 102 = .ok (.sipush 400, 3) := by decide +kernel
theorem d_M_init_105 : decode prog_8_method_1_code 105 = .ok (.newarray .int, 2) := by decide +kernel
theorem d_M_init_107 : decode prog_8_method_1_code 107 = .ok (.putfield 46, 3) := by decide +kernel
theorem d_M_init_110 : decode prog_8_method_1_code 110 = .ok (.aload_n 0, 1) := by decide +kernel
theorem d_M_init_111 : decode prog_8_method_1_code 111 = .ok (.sipush 400, 3) := by decide +kernel
theorem d_M_init_114 : decode prog_8_method_1_code 114 = .ok (.newarray .int, 2) := by decide +kernel
theorem d_M_init_116 : decode prog_8_method_1_code 116 = .ok (.putfield 49, 3) := by decide +kernel
theorem d_M_init_119 : decode prog_8_method_1_code 119 = .ok (.aload_n 0, 1) := by decide +kernel
theorem d_M_init_120 : decode prog_8_method_1_code 120 = .ok (.sipush 400, 3) := by decide +kernel
theorem d_M_init_123 : decode prog_8_method_1_code 123 = .ok (.newarray .int, 2) := by decide +kernel
theorem d_M_init_125 : decode prog_8_method_1_code 125 = .ok (.putfield 52, 3) := by decide +kernel
theorem d_M_init_128 : decode prog_8_method_1_code 128 = .ok (.aload_n 0, 1) := by decide +kernel
theorem d_M_init_129 : decode prog_8_method_1_code 129 = .ok (.sipush 400, 3) := by decide +kernel
theorem d_M_init_132 : decode prog_8_method_1_code 132 = .ok (.newarray .long, 2) := by decide +kernel
theorem d_M_init_134 : decode prog_8_method_1_code 134 = .ok (.putfield 55, 3) := by decide +kernel
theorem d_M_init_137 : decode prog_8_method_1_code 137 = .ok (.aload_n 0, 1) := by decide +kernel
theorem d_M_init_138 : decode prog_8_method_1_code 138 = .ok (.sipush 8000, 3) := by decide +kernel
theorem d_M_init_141 : decode prog_8_method_1_code 141 = .ok (.newarray .int, 2) := by decide +kernel
theorem d_M_init_143 : decode prog_8_method_1_code 143 = .ok (.putfield 58, 3) := by decide +kernel
theorem d_M_init_146 : decode prog_8_method_1_code 146 = .ok (.return_, 1) := by decide +kernel
theorem d_M_versions_0 : decode prog_8_method_6_code 0 = .ok (.aload_n 0, 1) := by decide +kernel
theorem d_M_versions_1 : decode prog_8_method_6_code 1 = .ok (.iconst 0, 1) := by decide +kernel
theorem d_M_versions_2 : decode prog_8_method_6_code 2 = .ok (.putfield 61, 3) := by decide +kernel
theorem d_M_versions_5 : decode prog_8_method_6_code 5 = .ok (.aload_n 0, 1) := by decide +kernel
theorem d_M_versions_6 : decode prog_8_method_6_code 6 = .ok (.getfield 65, 3) := by decide +kernel
theorem d_M_versions_9 : decode prog_8_method_6_code 9 = .ok (.bipush 16, 2) := by decide +kernel
theorem d_M_versions_11 : decode prog_8_method_6_code 11 = .ok (.if_icmp .eq 13, 3) := by decide +kernel
theorem d_M_versions_14 : decode prog_8_method_6_code 14 = .ok (.iload_n 1, 1) := by decide +kernel
theorem d_M_versions_15 : decode prog_8_method_6_code 15 = .ok (.ifCond .lt 9, 3) := by decide +kernel
theorem d_M_versions_18 : decode prog_8_method_6_code 18 = .ok (.iload_n 1, 1) := by decide +kernel
theorem d_M_versions_19 : decode prog_8_method_6_code 19 = .ok (.bipush 48, 2) := by decide +kernel
theorem d_M_versions_21 : decode prog_8_method_6_code 21 = .ok (.if_icmp .le 5, 3) := by decide +kernel
theorem d_M_versions_24 : decode prog_8_method_6_code 24 = .ok (.iconst (-1), 1) := by decide +kernel
theorem d_M_versions_25 : decode prog_8_method_6_code 25 = .ok (.ireturn, 1) := by decide +kernel
theorem d_M_versions_26 : decode prog_8_method_6_code 26 = .ok (.aload_n 0, 1) := by decide +kernel
theorem d_M_versions_27 : decode prog_8_method_6_code 27 = .ok (.getfield 7, 3) := by decide +kernel
theorem d_M_versions_30 : decode prog_8_method_6_code 30 = .ok (.aload_n 0, 1) := by decide +kernel
theorem d_M_versions_31 : decode prog_8_method_6_code 31 = .ok (.getfield 65, 3) := by decide +kernel
theorem d_M_versions_34 : decode prog_8_method_6_code 34 = .ok (.iload_n 1, 1) := by decide +kernel
theorem d_M_versions_35 : decode prog_8_method_6_code 35 = .ok (.iastore, 1) := by decide +kernel
theorem d_M_versions_36 : decode prog_8_method_6_code 36 = .ok (.aload_n 0, 1) := by decide +kernel
theorem d_M_versions_37 : decode prog_8_method_6_code 37 = .ok (.getfield 13, 3) := by decide +kernel
theorem d_M_versions_40 : decode prog_8_method_6_code 40 = .ok (.sipush 5400, 3) := by decide +kernel
theorem d_M_versions_43 : decode prog_8_method_6_code 43 = .ok (.aload_n 0, 1) := by decide +kernel
theorem d_M_versions_44 : decode prog_8_method_6_code 44 = .ok (.getfield 65, 3) := by decide +kernel
theorem d_M_versions_47 : decode prog_8_method_6_code 47 = .ok (.iadd, 1) := by decide +kernel
theorem d_M_versions_48 : decode prog_8_method_6_code 48 = .ok (.aload_n 0, 1) := by decide +kernel
theorem d_M_versions_49 : decode prog_8_method_6_code 49 = .ok (.getfield 65, 3) := by decide +kernel
theorem d_M_versions_52 : decode prog_8_method_6_code 52 = .ok (.iastore, 1) := by decide +kernel
theorem d_M_versions_53 : decode prog_8_method_6_code 53 = .ok (.aload_n 0, 1) := by decide +kernel
theorem d_M_versions_54 : decode prog_8_method_6_code 54 = .ok (.dup, 1) := by decide +kernel
theorem d_M_versions_55 : decode prog_8_method_6_code 55 = .ok (.getfield 65, 3) := by decide +kernel
theorem d_M_versions_58 : decode prog_8_method_6_code 58 = .ok (.iconst 1, 1) := by decide +kernel
theorem d_M_versions_59 : decode prog_8_method_6_code 59 = .ok (.iadd, 1) := by decide +kernel
theorem d_M_versions_60 : decode prog_8_method_6_code 60 = .ok (.putfield 65, 3) := by decide +kernel
theorem d_M_versions_63 : decode prog_8_method_6_code 63 = .ok (.aload_n 0, 1) := by decide +kernel
theorem d_M_versions_64 : decode prog_8_method_6_code 64 = .ok (.sipush 5400, 3) := by decide +kernel
theorem d_M_versions_67 : decode prog_8_method_6_code 67 = .ok (.aload_n 0, 1) := by decide +kernel
theorem d_M_versions_68 : decode prog_8_method_6_code 68 = .ok (.getfield 65, 3) := by decide +kernel
theorem d_M_versions_71 : decode prog_8_method_6_code 71 = .ok (.iadd, 1) := by decide +kernel
theorem d_M_versions_72 : decode prog_8_method_6_code 72 = .ok (.iconst 1, 1) := by decide +kernel
theorem d_M_versions_73 : decode prog_8_method_6_code 73 = .ok (.isub, 1) := by decide +kernel
theorem d_M_versions_74 : decode prog_8_method_6_code 74 = .ok (.invokevirtual 74, 3) := by decide +kernel
theorem d_M_versions_77 : decode prog_8_method_6_code 77 = .ok (.aload_n 0, 1) := by decide +kernel
theorem d_M_versions_78 : decode prog_8_method_6_code 78 = .ok (.getfield 65, 3) := by decide +kernel
theorem d_M_versions_81 : decode prog_8_method_6_code 81 = .ok (.iconst 1, 1) := by decide +kernel
theorem d_M_versions_82 : decode prog_8_method_6_code 82 = .ok (.isub, 1) := by decide +kernel
theorem d_M_versions_83 : decode prog_8_method_6_code 83 = .ok (.ireturn, 1) := by decide +kernel
theorem d_M_full_0 : decode prog_8_method_9_code 0 = .ok (.iconst (-1), 1) := by decide +kernel
theorem d_M_full_1 : decode prog_8_method_9_code 1 = .ok (.istore_n 2, 1) := by decide +kernel
theorem d_M_full_2 : decode prog_8_method_9_code 2 = .ok (.iload_n 2, 1) := by decide +kernel
theorem d_M_full_3 : decode prog_8_method_9_code 3 = .ok (.bipush 48, 2) := by decide +kernel
theorem d_M_full_5 : decode prog_8_method_9_code 5 = .ok (.if_icmp .ge 35, 3) := by decide +kernel
theorem d_M_full_8 : decode prog_8_method_9_code 8 = .ok (.aload_n 0, 1) := by decide +kernel
theorem d_M_full_9 : decode prog_8_method_9_code 9 = .ok (.iload_n 1, 1) := by decide +kernel
theorem d_M_full_10 : decode prog_8_method_9_code 10 = .ok (.iload_n 2, 1) := by decide +kernel
theorem d_M_full_11 : decode prog_8_method_9_code 11 = .ok (.iload_n 2, 1) := by decide +kernel
theorem d_M_full_12 : decode prog_8_method_9_code 12 = .ok (.aload_n 0, 1) := by decide +kernel
theorem d_M_full_13 : decode prog_8_method_9_code 13 = .ok (.getfield 7, 3) := by decide +kernel
theorem d_M_full_16 : decode prog_8_method_9_code 16 = .ok (.aload_n 0, 1) := by decide +kernel
theorem d_M_full_17 : decode prog_8_method_9_code 17 = .ok (.getfield 13, 3) := by decide +kernel
theorem d_M_full_20 : decode prog_8_method_9_code 20 = .ok (.iload_n 1, 1) := by decide +kernel
theorem d_M_full_21 : decode prog_8_method_9_code 21 = .ok (.iaload, 1) := by decide +kernel
theorem d_M_full_22 : decode prog_8_method_9_code 22 = .ok (.iaload, 1) := by decide +kernel
theorem d_M_full_23 : decode prog_8_method_9_code 23 = .ok (.if_icmp .ge 7, 3) := by decide +kernel
theorem d_M_full_26 : decode prog_8_method_9_code 26 = .ok (.iconst 1, 1) := by decide +kernel
theorem d_M_full_27 : decode prog_8_method_9_code 27 = .ok (.goto 4, 3) := by decide +kernel
theorem d_M_full_30 : decode prog_8_method_9_code 30 = .ok (.iconst 0, 1) := by decide +kernel
theorem d_M_full_31 : decode prog_8_method_9_code 31 = .ok (.invokevirtual 78, 3) := by decide +kernel
theorem d_M_full_34 : decode prog_8_method_9_code 34 = .ok (.iinc 2 1, 3) := by decide +kernel
theorem d_M_full_37 : decode prog_8_method_9_code 37 = .ok (.goto (-35), 3) := by decide +kernel
theorem d_M_full_40 : decode prog_8_method_9_code 40 = .ok (.return_, 1) := by decide +kernel
theorem d_M_tell_0 : decode prog_8_method_8_code 0 = .ok (.aload_n 0, 1) := by decide +kernel
theorem d_M_tell_1 : decode prog_8_method_8_code 1 = .ok (.getfield 17, 3) := by decide +kernel
theorem d_M_tell_4 : decode prog_8_method_8_code 4 = .ok (.bipush 49, 2) := by decide +kernel
theorem d_M_tell_6 : decode prog_8_method_8_code 6 = .ok (.iload_n 1, 1) := by decide +kernel
theorem d_M_tell_7 : decode prog_8_method_8_code 7 = .ok (.imul, 1) := by decide +kernel
theorem d_M_tell_8 : decode prog_8_method_8_code 8 = .ok (.iload_n 2, 1) := by decide +kernel
theorem d_M_tell_9 : decode prog_8_method_8_code 9 = .ok (.iadd, 1) := by decide +kernel
theorem d_M_tell_10 : decode prog_8_method_8_code 10 = .ok (.iconst 1, 1) := by decide +kernel
theorem d_M_tell_11 : decode prog_8_method_8_code 11 = .ok (.iadd, 1) := by decide +kernel
theorem d_M_tell_12 : decode prog_8_method_8_code 12 = .ok (.iload_n 3, 1) := by decide +kernel
theorem d_M_tell_13 : decode prog_8_method_8_code 13 = .ok (.bastore, 1) := by decide +kernel
theorem d_M_tell_14 : decode prog_8_method_8_code 14 = .ok (.return_, 1) := by decide +kernel
theorem d_M_term_0 : decode prog_8_method_18_code 0 = .ok (.aload_n 0, 1) := by decide +kernel
theorem d_M_term_1 : decode prog_8_method_18_code 1 = .ok (.iconst 0, 1) := by decide +kernel
theorem d_M_term_2 : decode prog_8_method_18_code 2 = .ok (.putfield 61, 3) := by decide +kernel
theorem d_M_term_5 : decode prog_8_method_18_code 5 = .ok (.aload_n 0, 1) := by decide +kernel
theorem d_M_term_6 : decode prog_8_method_18_code 6 = .ok (.iload_n 1, 1) := by decide +kernel
theorem d_M_term_7 : decode prog_8_method_18_code 7 = .ok (.invokevirtual 93, 3) := by decide +kernel
theorem d_M_term_10 : decode prog_8_method_18_code 10 = .ok (.ifCond .eq 13, 3) := by decide +kernel
theorem d_M_term_13 : decode prog_8_method_18_code 13 = .ok (.aload_n 0, 1) := by decide +kernel
theorem d_M_term_14 : decode prog_8_method_18_code 14 = .ok (.getfield 68, 3) := by decide +kernel
theorem d_M_term_17 : decode prog_8_method_18_code 17 = .ok (.sipush 600, 3) := by decide +kernel
theorem d_M_term_20 : decode prog_8_method_18_code 20 = .ok (.if_icmp .ne 5, 3) := by decide +kernel
theorem d_M_term_23 : decode prog_8_method_18_code 23 = .ok (.iconst (-1), 1) := by decide +kernel
theorem d_M_term_24 : decode prog_8_method_18_code 24 = .ok (.ireturn, 1) := by decide +kernel
theorem d_M_term_25 : decode prog_8_method_18_code 25 = .ok (.aload_n 0, 1) := by decide +kernel
theorem d_M_term_26 : decode prog_8_method_18_code 26 = .ok (.aload_n 0, 1) := by decide +kernel
theorem d_M_term_27 : decode prog_8_method_18_code 27 = .ok (.getfield 68, 3) := by decide +kernel
theorem d_M_term_30 : decode prog_8_method_18_code 30 = .ok (.iload_n 1, 1) := by decide +kernel
theorem d_M_term_31 : decode prog_8_method_18_code 31 = .ok (.lload_n 2, 1) := by decide +kernel
theorem d_M_term_32 : decode prog_8_method_18_code 32 = .ok (.iload 4, 2) := by decide +kernel
theorem d_M_term_34 : decode prog_8_method_18_code 34 = .ok (.invokevirtual 96, 3) := by decide +kernel
theorem d_M_term_37 : decode prog_8_method_18_code 37 = .ok (.aload_n 0, 1) := by decide +kernel
theorem d_M_term_38 : decode prog_8_method_18_code 38 = .ok (.dup, 1) := by decide +kernel
theorem d_M_term_39 : decode prog_8_method_18_code 39 = .ok (.getfield 68, 3) := by decide +kernel
theorem d_M_term_42 : decode prog_8_method_18_code 42 = .ok (.iconst 1, 1) := by decide +kernel
theorem d_M_term_43 : decode prog_8_method_18_code 43 = .ok (.iadd, 1) := by decide +kernel
theorem d_M_term_44 : decode prog_8_method_18_code 44 = .ok (.putfield 68, 3) := by decide +kernel
theorem d_M_term_47 : decode prog_8_method_18_code 47 = .ok (.aload_n 0, 1) := by decide +kernel
theorem d_M_term_48 : decode prog_8_method_18_code 48 = .ok (.getfield 68, 3) := by decide +kernel
theorem d_M_term_51 : decode prog_8_method_18_code 51 = .ok (.iconst 1, 1) := by decide +kernel
theorem d_M_term_52 : decode prog_8_method_18_code 52 = .ok (.isub, 1) := by decide +kernel
theorem d_M_term_53 : decode prog_8_method_18_code 53 = .ok (.ireturn, 1) := by decide +kernel
theorem d_M_isName_0 : decode prog_8_method_3_code 0 = .ok (.iload_n 1, 1) := by decide +kernel
theorem d_M_isName_1 : decode prog_8_method_3_code 1 = .ok (.ifCond .lt 15, 3) := by decide +kernel
theorem d_M_isName_4 : decode prog_8_method_3_code 4 = .ok (.iload_n 1, 1) := by decide +kernel
theorem d_M_isName_5 : decode prog_8_method_3_code 5 = .ok (.aload_n 0, 1) := by decide +kernel
theorem d_M_isName_6 : decode prog_8_method_3_code 6 = .ok (.getfield 65, 3) := by decide +kernel
theorem d_M_isName_9 : decode prog_8_method_3_code 9 = .ok (.if_icmp .ge 7, 3) := by decide +kernel
theorem d_M_isName_12 : decode prog_8_method_3_code 12 = .ok (.iconst 1, 1) := by decide +kernel
theorem d_M_isName_13 : decode prog_8_method_3_code 13 = .ok (.goto 4, 3) := by decide +kernel
theorem d_M_isName_16 : decode prog_8_method_3_code 16 = .ok (.iconst 0, 1) := by decide +kernel
theorem d_M_isName_17 : decode prog_8_method_3_code 17 = .ok (.ireturn, 1) := by decide +kernel
theorem d_M_make_0 : decode prog_8_method_10_code 0 = .ok (.aload_n 0, 1) := by decide +kernel
theorem d_M_make_1 : decode prog_8_method_10_code 1 = .ok (.getfield 13, 3) := by decide +kernel
theorem d_M_make_4 : decode prog_8_method_10_code 4 = .ok (.iload_n 1, 1) := by decide +kernel
theorem d_M_make_5 : decode prog_8_method_10_code 5 = .ok (.iload_n 2, 1) := by decide +kernel
theorem d_M_make_6 : decode prog_8_method_10_code 6 = .ok (.iastore, 1) := by decide +kernel
theorem d_M_make_7 : decode prog_8_method_10_code 7 = .ok (.aload_n 0, 1) := by decide +kernel
theorem d_M_make_8 : decode prog_8_method_10_code 8 = .ok (.iload_n 1, 1) := by decide +kernel
theorem d_M_make_9 : decode prog_8_method_10_code 9 = .ok (.iconst (-1), 1) := by decide +kernel
theorem d_M_make_10 : decode prog_8_method_10_code 10 = .ok (.iload 5, 2) := by decide +kernel
theorem d_M_make_12 : decode prog_8_method_10_code 12 = .ok (.ifCond .ne 7, 3) := by decide +kernel
theorem d_M_make_15 : decode prog_8_method_10_code 15 = .ok (.iconst 1, 1) := by decide +kernel
theorem d_M_make_16 : decode prog_8_method_10_code 16 = .ok (.goto 4, 3) := by decide +kernel
theorem d_M_make_19 : decode prog_8_method_10_code 19 = .ok (.iconst 0, 1) := by decide +kernel
theorem d_M_make_20 : decode prog_8_method_10_code 20 = .ok (.invokevirtual 78, 3) := by decide +kernel
theorem d_M_make_23 : decode prog_8_method_10_code 23 = .ok (.iconst 0, 1) := by decide +kernel
theorem d_M_make_24 : decode prog_8_method_10_code 24 = .ok (.istore 6, 2) := by decide +kernel
theorem d_M_make_26 : decode prog_8_method_10_code 26 = .ok (.iload 6, 2) := by decide +kernel
theorem d_M_make_28 : decode prog_8_method_10_code 28 = .ok (.bipush 48, 2) := by decide +kernel
theorem d_M_make_30 : decode prog_8_method_10_code 30 = .ok (.if_icmp .ge 53, 3) := by decide +kernel
theorem d_M_make_33 : decode prog_8_method_10_code 33 = .ok (.aload_n 0, 1) := by decide +kernel
theorem d_M_make_34 : decode prog_8_method_10_code 34 = .ok (.iload_n 1, 1) := by decide +kernel
theorem d_M_make_35 : decode prog_8_method_10_code 35 = .ok (.iload 6, 2) := by decide +kernel
theorem d_M_make_37 : decode prog_8_method_10_code 37 = .ok (.iload 6, 2) := by decide +kernel
theorem d_M_make_39 : decode prog_8_method_10_code 39 = .ok (.aload_n 0, 1) := by decide +kernel
theorem d_M_make_40 : decode prog_8_method_10_code 40 = .ok (.getfield 7, 3) := by decide +kernel
theorem d_M_make_43 : decode prog_8_method_10_code 43 = .ok (.iload_n 2, 1) := by decide +kernel
theorem d_M_make_44 : decode prog_8_method_10_code 44 = .ok (.iaload, 1) := by decide +kernel
theorem d_M_make_45 : decode prog_8_method_10_code 45 = .ok (.if_icmp .ge 28, 3) := by decide +kernel
theorem d_M_make_48 : decode prog_8_method_10_code 48 = .ok (.lload_n 3, 1) := by decide +kernel
theorem d_M_make_49 : decode prog_8_method_10_code 49 = .ok (.iload 6, 2) := by decide +kernel
theorem d_M_make_51 : decode prog_8_method_10_code 51 = .ok (.lshr, 1) := by decide +kernel
theorem d_M_make_52 : decode prog_8_method_10_code 52 = .ok (.lconst 1, 1) := by decide +kernel
theorem d_M_make_53 : decode prog_8_method_10_code 53 = .ok (.land, 1) := by decide +kernel
theorem d_M_make_54 : decode prog_8_method_10_code 54 = .ok (.lconst 1, 1) := by decide +kernel
theorem d_M_make_55 : decode prog_8_method_10_code 55 = .ok (.lcmp, 1) := by decide +kernel
theorem d_M_make_56 : decode prog_8_method_10_code 56 = .ok (.ifCond .ne 7, 3) := by decide +kernel
theorem d_M_make_59 : decode prog_8_method_10_code 59 = .ok (.iconst 1, 1) := by decide +kernel
theorem d_M_make_60 : decode prog_8_method_10_code 60 = .ok (.goto 4, 3) := by decide +kernel
theorem d_M_make_63 : decode prog_8_method_10_code 63 = .ok (.iconst 0, 1) := by decide +kernel
theorem d_M_make_64 : decode prog_8_method_10_code 64 = .ok (.iload 5, 2) := by decide +kernel
theorem d_M_make_66 : decode prog_8_method_10_code 66 = .ok (.if_icmp .ne 7, 3) := by decide +kernel
theorem d_M_make_69 : decode prog_8_method_10_code 69 = .ok (.iconst 1, 1) := by decide +kernel
theorem d_M_make_70 : decode prog_8_method_10_code 70 = .ok (.goto 4, 3) := by decide +kernel
theorem d_M_make_73 : decode prog_8_method_10_code 73 = .ok (.iconst 0, 1) := by decide +kernel
theorem d_M_make_74 : decode prog_8_method_10_code 74 = .ok (.invokevirtual 78, 3) := by decide +kernel
theorem d_M_make_77 : decode prog_8_method_10_code 77 = .ok (.iinc 6 1, 3) := by decide +kernel
theorem d_M_make_80 : decode prog_8_method_10_code 80 = .ok (.goto (-54), 3) := by decide +kernel
theorem d_M_make_83 : decode prog_8_method_10_code 83 = .ok (.return_, 1) := by decide +kernel
theorem d_M_both_0 : decode prog_8_method_19_code 0 = .ok (.aload_n 0, 1) := by decide +kernel
theorem d_M_both_1 : decode prog_8_method_19_code 1 = .ok (.iconst 0, 1) := by decide +kernel
theorem d_M_both_2 : decode prog_8_method_19_code 2 = .ok (.putfield 61, 3) := by decide +kernel
theorem d_M_both_5 : decode prog_8_method_19_code 5 = .ok (.aload_n 0, 1) := by decide +kernel
theorem d_M_both_6 : decode prog_8_method_19_code 6 = .ok (.iload_n 1, 1) := by decide +kernel
theorem d_M_both_7 : decode prog_8_method_19_code 7 = .ok (.invokevirtual 100, 3) := by decide +kernel
theorem d_M_both_10 : decode prog_8_method_19_code 10 = .ok (.ifCond .eq 36, 3) := by decide +kernel
theorem d_M_both_13 : decode prog_8_method_19_code 13 = .ok (.aload_n 0, 1) := by decide +kernel
theorem d_M_both_14 : decode prog_8_method_19_code 14 = .ok (.iload_n 2, 1) := by decide +kernel
theorem d_M_both_15 : decode prog_8_method_19_code 15 = .ok (.invokevirtual 100, 3) := by decide +kernel
theorem d_M_both_18 : decode prog_8_method_19_code 18 = .ok (.ifCond .eq 28, 3) := by decide +kernel
theorem d_M_both_21 : decode prog_8_method_19_code 21 = .ok (.aload_n 0, 1) := by decide +kernel
theorem d_M_both_22 : decode prog_8_method_19_code 22 = .ok (.getfield 13, 3) := by decide +kernel
theorem d_M_both_25 : decode prog_8_method_19_code 25 = .ok (.iload_n 1, 1) := by decide +kernel
theorem d_M_both_26 : decode prog_8_method_19_code 26 = .ok (.iaload, 1) := by decide +kernel
theorem d_M_both_27 : decode prog_8_method_19_code 27 = .ok (.aload_n 0, 1) := by decide +kernel
theorem d_M_both_28 : decode prog_8_method_19_code 28 = .ok (.getfield 13, 3) := by decide +kernel
theorem d_M_both_31 : decode prog_8_method_19_code 31 = .ok (.iload_n 2, 1) := by decide +kernel
theorem d_M_both_32 : decode prog_8_method_19_code 32 = .ok (.iaload, 1) := by decide +kernel
theorem d_M_both_33 : decode prog_8_method_19_code 33 = .ok (.if_icmp .ne 13, 3) := by decide +kernel
theorem d_M_both_36 : decode prog_8_method_19_code 36 = .ok (.aload_n 0, 1) := by decide +kernel
theorem d_M_both_37 : decode prog_8_method_19_code 37 = .ok (.getfield 68, 3) := by decide +kernel
theorem d_M_both_40 : decode prog_8_method_19_code 40 = .ok (.sipush 600, 3) := by decide +kernel
theorem d_M_both_43 : decode prog_8_method_19_code 43 = .ok (.if_icmp .ne 5, 3) := by decide +kernel
theorem d_M_both_46 : decode prog_8_method_19_code 46 = .ok (.iconst (-1), 1) := by decide +kernel
theorem d_M_both_47 : decode prog_8_method_19_code 47 = .ok (.ireturn, 1) := by decide +kernel
theorem d_M_both_48 : decode prog_8_method_19_code 48 = .ok (.aload_n 0, 1) := by decide +kernel
theorem d_M_both_49 : decode prog_8_method_19_code 49 = .ok (.aload_n 0, 1) := by decide +kernel
theorem d_M_both_50 : decode prog_8_method_19_code 50 = .ok (.getfield 68, 3) := by decide +kernel
theorem d_M_both_53 : decode prog_8_method_19_code 53 = .ok (.iload_n 1, 1) := by decide +kernel
theorem d_M_both_54 : decode prog_8_method_19_code 54 = .ok (.iload_n 2, 1) := by decide +kernel
theorem d_M_both_55 : decode prog_8_method_19_code 55 = .ok (.iload_n 3, 1) := by decide +kernel
theorem d_M_both_56 : decode prog_8_method_19_code 56 = .ok (.invokevirtual 103, 3) := by decide +kernel
theorem d_M_both_59 : decode prog_8_method_19_code 59 = .ok (.aload_n 0, 1) := by decide +kernel
theorem d_M_both_60 : decode prog_8_method_19_code 60 = .ok (.dup, 1) := by decide +kernel
theorem d_M_both_61 : decode prog_8_method_19_code 61 = .ok (.getfield 68, 3) := by decide +kernel
theorem d_M_both_64 : decode prog_8_method_19_code 64 = .ok (.iconst 1, 1) := by decide +kernel
theorem d_M_both_65 : decode prog_8_method_19_code 65 = .ok (.iadd, 1) := by decide +kernel
theorem d_M_both_66 : decode prog_8_method_19_code 66 = .ok (.putfield 68, 3) := by decide +kernel
theorem d_M_both_69 : decode prog_8_method_19_code 69 = .ok (.aload_n 0, 1) := by decide +kernel
theorem d_M_both_70 : decode prog_8_method_19_code 70 = .ok (.getfield 68, 3) := by decide +kernel
theorem d_M_both_73 : decode prog_8_method_19_code 73 = .ok (.iconst 1, 1) := by decide +kernel
theorem d_M_both_74 : decode prog_8_method_19_code 74 = .ok (.isub, 1) := by decide +kernel
theorem d_M_both_75 : decode prog_8_method_19_code 75 = .ok (.ireturn, 1) := by decide +kernel
theorem d_M_isTerm_0 : decode prog_8_method_4_code 0 = .ok (.iload_n 1, 1) := by decide +kernel
theorem d_M_isTerm_1 : decode prog_8_method_4_code 1 = .ok (.ifCond .lt 15, 3) := by decide +kernel
theorem d_M_isTerm_4 : decode prog_8_method_4_code 4 = .ok (.iload_n 1, 1) := by decide +kernel
theorem d_M_isTerm_5 : decode prog_8_method_4_code 5 = .ok (.aload_n 0, 1) := by decide +kernel
theorem d_M_isTerm_6 : decode prog_8_method_4_code 6 = .ok (.getfield 68, 3) := by decide +kernel
theorem d_M_isTerm_9 : decode prog_8_method_4_code 9 = .ok (.if_icmp .ge 7, 3) := by decide +kernel
theorem d_M_isTerm_12 : decode prog_8_method_4_code 12 = .ok (.iconst 1, 1) := by decide +kernel
theorem d_M_isTerm_13 : decode prog_8_method_4_code 13 = .ok (.goto 4, 3) := by decide +kernel
theorem d_M_isTerm_16 : decode prog_8_method_4_code 16 = .ok (.iconst 0, 1) := by decide +kernel
theorem d_M_isTerm_17 : decode prog_8_method_4_code 17 = .ok (.ireturn, 1) := by decide +kernel
theorem d_M_join_0 : decode prog_8_method_12_code 0 = .ok (.aload_n 0, 1) := by decide +kernel
theorem d_M_join_1 : decode prog_8_method_12_code 1 = .ok (.getfield 13, 3) := by decide +kernel
theorem d_M_join_4 : decode prog_8_method_12_code 4 = .ok (.iload_n 1, 1) := by decide +kernel
theorem d_M_join_5 : decode prog_8_method_12_code 5 = .ok (.aload_n 0, 1) := by decide +kernel
theorem d_M_join_6 : decode prog_8_method_12_code 6 = .ok (.getfield 13, 3) := by decide +kernel
theorem d_M_join_9 : decode prog_8_method_12_code 9 = .ok (.iload_n 2, 1) := by decide +kernel
theorem d_M_join_10 : decode prog_8_method_12_code 10 = .ok (.iaload, 1) := by decide +kernel
theorem d_M_join_11 : decode prog_8_method_12_code 11 = .ok (.iastore, 1) := by decide +kernel
theorem d_M_join_12 : decode prog_8_method_12_code 12 = .ok (.iconst (-1), 1) := by decide +kernel
theorem d_M_join_13 : decode prog_8_method_12_code 13 = .ok (.istore 5, 2) := by decide +kernel
theorem d_M_join_15 : decode prog_8_method_12_code 15 = .ok (.iload 5, 2) := by decide +kernel
theorem d_M_join_17 : decode prog_8_method_12_code 17 = .ok (.bipush 48, 2) := by decide +kernel
theorem d_M_join_19 : decode prog_8_method_12_code 19 = .ok (.if_icmp .ge 74, 3) := by decide +kernel
theorem d_M_join_22 : decode prog_8_method_12_code 22 = .ok (.aload_n 0, 1) := by decide +kernel
theorem d_M_join_23 : decode prog_8_method_12_code 23 = .ok (.iload_n 1, 1) := by decide +kernel
theorem d_M_join_24 : decode prog_8_method_12_code 24 = .ok (.iload 5, 2) := by decide +kernel
theorem d_M_join_26 : decode prog_8_method_12_code 26 = .ok (.iload 4, 2) := by decide +kernel
theorem d_M_join_28 : decode prog_8_method_12_code 28 = .ok (.ifCond .eq 31, 3) := by decide +kernel
theorem d_M_join_31 : decode prog_8_method_12_code 31 = .ok (.aload_n 0, 1) := by decide +kernel
theorem d_M_join_32 : decode prog_8_method_12_code 32 = .ok (.iload_n 2, 1) := by decide +kernel
theorem d_M_join_33 : decode prog_8_method_12_code 33 = .ok (.iload 5, 2) := by decide +kernel
theorem d_M_join_35 : decode prog_8_method_12_code 35 = .ok (.invokevirtual 82, 3) := by decide +kernel
theorem d_M_join_38 : decode prog_8_method_12_code 38 = .ok (.ifCond .ne 13, 3) := by decide +kernel
theorem d_M_join_41 : decode prog_8_method_12_code 41 = .ok (.aload_n 0, 1) := by decide +kernel
theorem d_M_join_42 : decode prog_8_method_12_code 42 = .ok (.iload_n 3, 1) := by decide +kernel
theorem d_M_join_43 : decode prog_8_method_12_code 43 = .ok (.iload 5, 2) := by decide +kernel
theorem d_M_join_45 : decode prog_8_method_12_code 45 = .ok (.invokevirtual 82, 3) := by decide +kernel
theorem d_M_join_48 : decode prog_8_method_12_code 48 = .ok (.ifCond .eq 7, 3) := by decide +kernel
theorem d_M_join_51 : decode prog_8_method_12_code 51 = .ok (.iconst 1, 1) := by decide +kernel
theorem d_M_join_52 : decode prog_8_method_12_code 52 = .ok (.goto 32, 3) := by decide +kernel
theorem d_M_join_55 : decode prog_8_method_12_code 55 = .ok (.iconst 0, 1) := by decide +kernel
theorem d_M_join_56 : decode prog_8_method_12_code 56 = .ok (.goto 28, 3) := by decide +kernel
theorem d_M_join_59 : decode prog_8_method_12_code 59 = .ok (.aload_n 0, 1) := by decide +kernel
theorem d_M_join_60 : decode prog_8_method_12_code 60 = .ok (.iload_n 2, 1) := by decide +kernel
theorem d_M_join_61 : decode prog_8_method_12_code 61 = .ok (.iload 5, 2) := by decide +kernel
theorem d_M_join_63 : decode prog_8_method_12_code 63 = .ok (.invokevirtual 82, 3) := by decide +kernel
theorem d_M_join_66 : decode prog_8_method_12_code 66 = .ok (.ifCond .eq 17, 3) := by decide +kernel
theorem d_M_join_69 : decode prog_8_method_12_code 69 = .ok (.aload_n 0, 1) := by decide +kernel
theorem d_M_join_70 : decode prog_8_method_12_code 70 = .ok (.iload_n 3, 1) := by decide +kernel
theorem d_M_join_71 : decode prog_8_method_12_code 71 = .ok (.iload 5, 2) := by decide +kernel
theorem d_M_join_73 : decode prog_8_method_12_code 73 = .ok (.invokevirtual 82, 3) := by decide +kernel
theorem d_M_join_76 : decode prog_8_method_12_code 76 = .ok (.ifCond .eq 7, 3) := by decide +kernel
theorem d_M_join_79 : decode prog_8_method_12_code 79 = .ok (.iconst 1, 1) := by decide +kernel
theorem d_M_join_80 : decode prog_8_method_12_code 80 = .ok (.goto 4, 3) := by decide +kernel
theorem d_M_join_83 : decode prog_8_method_12_code 83 = .ok (.iconst 0, 1) := by decide +kernel
theorem d_M_join_84 : decode prog_8_method_12_code 84 = .ok (.invokevirtual 78, 3) := by decide +kernel
theorem d_M_join_87 : decode prog_8_method_12_code 87 = .ok (.iinc 5 1, 3) := by decide +kernel
theorem d_M_join_90 : decode prog_8_method_12_code 90 = .ok (.goto (-75), 3) := by decide +kernel
theorem d_M_join_93 : decode prog_8_method_12_code 93 = .ok (.return_, 1) := by decide +kernel
theorem d_M_isSaid_0 : decode prog_8_method_7_code 0 = .ok (.aload_n 0, 1) := by decide +kernel
theorem d_M_isSaid_1 : decode prog_8_method_7_code 1 = .ok (.getfield 17, 3) := by decide +kernel
theorem d_M_isSaid_4 : decode prog_8_method_7_code 4 = .ok (.bipush 49, 2) := by decide +kernel
theorem d_M_isSaid_6 : decode prog_8_method_7_code 6 = .ok (.iload_n 1, 1) := by decide +kernel
theorem d_M_isSaid_7 : decode prog_8_method_7_code 7 = .ok (.imul, 1) := by decide +kernel
theorem d_M_isSaid_8 : decode prog_8_method_7_code 8 = .ok (.iload_n 2, 1) := by decide +kernel
theorem d_M_isSaid_9 : decode prog_8_method_7_code 9 = .ok (.iadd, 1) := by decide +kernel
theorem d_M_isSaid_10 : decode prog_8_method_7_code 10 = .ok (.iconst 1, 1) := by decide +kernel
theorem d_M_isSaid_11 : decode prog_8_method_7_code 11 = .ok (.iadd, 1) := by decide +kernel
theorem d_M_isSaid_12 : decode prog_8_method_7_code 12 = .ok (.baload, 1) := by decide +kernel
theorem d_M_isSaid_13 : decode prog_8_method_7_code 13 = .ok (.ireturn, 1) := by decide +kernel
theorem d_M_relate_0 : decode prog_8_method_21_code 0 = .ok (.aload_n 0, 1) := by decide +kernel
theorem d_M_relate_1 : decode prog_8_method_21_code 1 = .ok (.iconst 0, 1) := by decide +kernel
theorem d_M_relate_2 : decode prog_8_method_21_code 2 = .ok (.putfield 61, 3) := by decide +kernel
theorem d_M_relate_5 : decode prog_8_method_21_code 5 = .ok (.aload_n 0, 1) := by decide +kernel
theorem d_M_relate_6 : decode prog_8_method_21_code 6 = .ok (.iload_n 1, 1) := by decide +kernel
theorem d_M_relate_7 : decode prog_8_method_21_code 7 = .ok (.invokevirtual 100, 3) := by decide +kernel
theorem d_M_relate_10 : decode prog_8_method_21_code 10 = .ok (.ifCond .eq 11, 3) := by decide +kernel
theorem d_M_relate_13 : decode prog_8_method_21_code 13 = .ok (.aload_n 0, 1) := by decide +kernel
theorem d_M_relate_14 : decode prog_8_method_21_code 14 = .ok (.iload_n 2, 1) := by decide +kernel
theorem d_M_relate_15 : decode prog_8_method_21_code 15 = .ok (.invokevirtual 100, 3) := by decide +kernel
theorem d_M_relate_18 : decode prog_8_method_21_code 18 = .ok (.ifCond .ne 6, 3) := by decide +kernel
theorem d_M_relate_21 : decode prog_8_method_21_code 21 = .ok (.bipush (-2), 2) := by decide +kernel
theorem d_M_relate_23 : decode prog_8_method_21_code 23 = .ok (.ireturn, 1) := by decide +kernel
theorem d_M_relate_24 : decode prog_8_method_21_code 24 = .ok (.aload_n 0, 1) := by decide +kernel
theorem d_M_relate_25 : decode prog_8_method_21_code 25 = .ok (.iload_n 1, 1) := by decide +kernel
theorem d_M_relate_26 : decode prog_8_method_21_code 26 = .ok (.iload_n 1, 1) := by decide +kernel
theorem d_M_relate_27 : decode prog_8_method_21_code 27 = .ok (.invokevirtual 107, 3) := by decide +kernel
theorem d_M_relate_30 : decode prog_8_method_21_code 30 = .ok (.iconst (-1), 1) := by decide +kernel
theorem d_M_relate_31 : decode prog_8_method_21_code 31 = .ok (.if_icmp .ne 5, 3) := by decide +kernel
theorem d_M_relate_34 : decode prog_8_method_21_code 34 = .ok (.iconst (-1), 1) := by decide +kernel
theorem d_M_relate_35 : decode prog_8_method_21_code 35 = .ok (.ireturn, 1) := by decide +kernel
theorem d_M_relate_36 : decode prog_8_method_21_code 36 = .ok (.aload_n 0, 1) := by decide +kernel
theorem d_M_relate_37 : decode prog_8_method_21_code 37 = .ok (.getfield 13, 3) := by decide +kernel
theorem d_M_relate_40 : decode prog_8_method_21_code 40 = .ok (.iload_n 1, 1) := by decide +kernel
theorem d_M_relate_41 : decode prog_8_method_21_code 41 = .ok (.iaload, 1) := by decide +kernel
theorem d_M_relate_42 : decode prog_8_method_21_code 42 = .ok (.aload_n 0, 1) := by decide +kernel
theorem d_M_relate_43 : decode prog_8_method_21_code 43 = .ok (.getfield 13, 3) := by decide +kernel
theorem d_M_relate_46 : decode prog_8_method_21_code 46 = .ok (.iload_n 2, 1) := by decide +kernel
theorem d_M_relate_47 : decode prog_8_method_21_code 47 = .ok (.iaload, 1) := by decide +kernel
theorem d_M_relate_48 : decode prog_8_method_21_code 48 = .ok (.if_icmp .ne 12, 3) := by decide +kernel
theorem d_M_relate_51 : decode prog_8_method_21_code 51 = .ok (.aload_n 0, 1) := by decide +kernel
theorem d_M_relate_52 : decode prog_8_method_21_code 52 = .ok (.iload_n 1, 1) := by decide +kernel
theorem d_M_relate_53 : decode prog_8_method_21_code 53 = .ok (.iload_n 2, 1) := by decide +kernel
theorem d_M_relate_54 : decode prog_8_method_21_code 54 = .ok (.invokevirtual 107, 3) := by decide +kernel
theorem d_M_relate_57 : decode prog_8_method_21_code 57 = .ok (.goto 4, 3) := by decide +kernel
theorem d_M_relate_60 : decode prog_8_method_21_code 60 = .ok (.iconst 0, 1) := by decide +kernel
theorem d_M_relate_61 : decode prog_8_method_21_code 61 = .ok (.ireturn, 1) := by decide +kernel
theorem d_M_relation_0 : decode prog_8_method_20_code 0 = .ok (.iconst 1, 1) := by decide +kernel
theorem d_M_relation_1 : decode prog_8_method_20_code 1 = .ok (.istore_n 3, 1) := by decide +kernel
theorem d_M_relation_2 : decode prog_8_method_20_code 2 = .ok (.iconst 0, 1) := by decide +kernel
theorem d_M_relation_3 : decode prog_8_method_20_code 3 = .ok (.istore 4, 2) := by decide +kernel
theorem d_M_relation_5 : decode prog_8_method_20_code 5 = .ok (.iconst (-1), 1) := by decide +kernel
theorem d_M_relation_6 : decode prog_8_method_20_code 6 = .ok (.istore 5, 2) := by decide +kernel
theorem d_M_relation_8 : decode prog_8_method_20_code 8 = .ok (.iload 5, 2) := by decide +kernel
theorem d_M_relation_10 : decode prog_8_method_20_code 10 = .ok (.bipush 48, 2) := by decide +kernel
theorem d_M_relation_12 : decode prog_8_method_20_code 12 = .ok (.if_icmp .ge 71, 3) := by decide +kernel
theorem d_M_relation_15 : decode prog_8_method_20_code 15 = .ok (.iload_n 3, 1) := by decide +kernel
theorem d_M_relation_16 : decode prog_8_method_20_code 16 = .ok (.ifCond .eq 27, 3) := by decide +kernel
theorem d_M_relation_19 : decode prog_8_method_20_code 19 = .ok (.aload_n 0, 1) := by decide +kernel
theorem d_M_relation_20 : decode prog_8_method_20_code 20 = .ok (.iload_n 1, 1) := by decide +kernel
theorem d_M_relation_21 : decode prog_8_method_20_code 21 = .ok (.iload 5, 2) := by decide +kernel
theorem d_M_relation_23 : decode prog_8_method_20_code 23 = .ok (.invokevirtual 82, 3) := by decide +kernel
theorem d_M_relation_26 : decode prog_8_method_20_code 26 = .ok (.ifCond .eq 13, 3) := by decide +kernel
theorem d_M_relation_29 : decode prog_8_method_20_code 29 = .ok (.aload_n 0, 1) := by decide +kernel
theorem d_M_relation_30 : decode prog_8_method_20_code 30 = .ok (.iload_n 2, 1) := by decide +kernel
theorem d_M_relation_31 : decode prog_8_method_20_code 31 = .ok (.iload 5, 2) := by decide +kernel
theorem d_M_relation_33 : decode prog_8_method_20_code 33 = .ok (.invokevirtual 82, 3) := by decide +kernel
theorem d_M_relation_36 : decode prog_8_method_20_code 36 = .ok (.ifCond .eq 7, 3) := by decide +kernel
theorem d_M_relation_39 : decode prog_8_method_20_code 39 = .ok (.iconst 1, 1) := by decide +kernel
theorem d_M_relation_40 : decode prog_8_method_20_code 40 = .ok (.goto 4, 3) := by decide +kernel
theorem d_M_relation_43 : decode prog_8_method_20_code 43 = .ok (.iconst 0, 1) := by decide +kernel
theorem d_M_relation_44 : decode prog_8_method_20_code 44 = .ok (.istore_n 3, 1) := by decide +kernel
theorem d_M_relation_45 : decode prog_8_method_20_code 45 = .ok (.iload 4, 2) := by decide +kernel
theorem d_M_relation_47 : decode prog_8_method_20_code 47 = .ok (.ifCond .ne 23, 3) := by decide +kernel
theorem d_M_relation_50 : decode prog_8_method_20_code 50 = .ok (.aload_n 0, 1) := by decide +kernel
theorem d_M_relation_51 : decode prog_8_method_20_code 51 = .ok (.iload_n 1, 1) := by decide +kernel
theorem d_M_relation_52 : decode prog_8_method_20_code 52 = .ok (.iload 5, 2) := by decide +kernel
theorem d_M_relation_54 : decode prog_8_method_20_code 54 = .ok (.invokevirtual 82, 3) := by decide +kernel
theorem d_M_relation_57 : decode prog_8_method_20_code 57 = .ok (.ifCond .eq 17, 3) := by decide +kernel
theorem d_M_relation_60 : decode prog_8_method_20_code 60 = .ok (.aload_n 0, 1) := by decide +kernel
theorem d_M_relation_61 : decode prog_8_method_20_code 61 = .ok (.iload_n 2, 1) := by decide +kernel
theorem d_M_relation_62 : decode prog_8_method_20_code 62 = .ok (.iload 5, 2) := by decide +kernel
theorem d_M_relation_64 : decode prog_8_method_20_code 64 = .ok (.invokevirtual 82, 3) := by decide +kernel
theorem d_M_relation_67 : decode prog_8_method_20_code 67 = .ok (.ifCond .eq 7, 3) := by decide +kernel
theorem d_M_relation_70 : decode prog_8_method_20_code 70 = .ok (.iconst 1, 1) := by decide +kernel
theorem d_M_relation_71 : decode prog_8_method_20_code 71 = .ok (.goto 4, 3) := by decide +kernel
theorem d_M_relation_74 : decode prog_8_method_20_code 74 = .ok (.iconst 0, 1) := by decide +kernel
theorem d_M_relation_75 : decode prog_8_method_20_code 75 = .ok (.istore 4, 2) := by decide +kernel
theorem d_M_relation_77 : decode prog_8_method_20_code 77 = .ok (.iinc 5 1, 3) := by decide +kernel
theorem d_M_relation_80 : decode prog_8_method_20_code 80 = .ok (.goto (-72), 3) := by decide +kernel
theorem d_M_relation_83 : decode prog_8_method_20_code 83 = .ok (.iload 4, 2) := by decide +kernel
theorem d_M_relation_85 : decode prog_8_method_20_code 85 = .ok (.ifCond .ne 7, 3) := by decide +kernel
theorem d_M_relation_88 : decode prog_8_method_20_code 88 = .ok (.iconst (-1), 1) := by decide +kernel
theorem d_M_relation_89 : decode prog_8_method_20_code 89 = .ok (.goto 12, 3) := by decide +kernel
theorem d_M_relation_92 : decode prog_8_method_20_code 92 = .ok (.iload_n 3, 1) := by decide +kernel
theorem d_M_relation_93 : decode prog_8_method_20_code 93 = .ok (.ifCond .eq 7, 3) := by decide +kernel
theorem d_M_relation_96 : decode prog_8_method_20_code 96 = .ok (.iconst 1, 1) := by decide +kernel
theorem d_M_relation_97 : decode prog_8_method_20_code 97 = .ok (.goto 4, 3) := by decide +kernel
theorem d_M_relation_100 : decode prog_8_method_20_code 100 = .ok (.iconst 0, 1) := by decide +kernel
theorem d_M_relation_101 : decode prog_8_method_20_code 101 = .ok (.ireturn, 1) := by decide +kernel
theorem d_M_about_0 : decode prog_8_method_22_code 0 = .ok (.aload_n 0, 1) := by decide +kernel
theorem d_M_about_1 : decode prog_8_method_22_code 1 = .ok (.iconst 0, 1) := by decide +kernel
theorem d_M_about_2 : decode prog_8_method_22_code 2 = .ok (.putfield 61, 3) := by decide +kernel
theorem d_M_about_5 : decode prog_8_method_22_code 5 = .ok (.aload_n 0, 1) := by decide +kernel
theorem d_M_about_6 : decode prog_8_method_22_code 6 = .ok (.iload_n 1, 1) := by decide +kernel
theorem d_M_about_7 : decode prog_8_method_22_code 7 = .ok (.invokevirtual 100, 3) := by decide +kernel
theorem d_M_about_10 : decode prog_8_method_22_code 10 = .ok (.ifCond .eq 12, 3) := by decide +kernel
theorem d_M_about_13 : decode prog_8_method_22_code 13 = .ok (.aload_n 0, 1) := by decide +kernel
theorem d_M_about_14 : decode prog_8_method_22_code 14 = .ok (.iload_n 1, 1) := by decide +kernel
theorem d_M_about_15 : decode prog_8_method_22_code 15 = .ok (.iload_n 2, 1) := by decide +kernel
theorem d_M_about_16 : decode prog_8_method_22_code 16 = .ok (.invokevirtual 111, 3) := by decide +kernel
theorem d_M_about_19 : decode prog_8_method_22_code 19 = .ok (.goto 4, 3) := by decide +kernel
theorem d_M_about_22 : decode prog_8_method_22_code 22 = .ok (.iconst (-1), 1) := by decide +kernel
theorem d_M_about_23 : decode prog_8_method_22_code 23 = .ok (.ireturn, 1) := by decide +kernel
theorem d_M_aboutOf_0 : decode prog_8_method_17_code 0 = .ok (.iconst 0, 1) := by decide +kernel
theorem d_M_aboutOf_1 : decode prog_8_method_17_code 1 = .ok (.istore_n 3, 1) := by decide +kernel
theorem d_M_aboutOf_2 : decode prog_8_method_17_code 2 = .ok (.iconst 0, 1) := by decide +kernel
theorem d_M_aboutOf_3 : decode prog_8_method_17_code 3 = .ok (.istore 4, 2) := by decide +kernel
theorem d_M_aboutOf_5 : decode prog_8_method_17_code 5 = .ok (.iload 4, 2) := by decide +kernel
theorem d_M_aboutOf_7 : decode prog_8_method_17_code 7 = .ok (.bipush 48, 2) := by decide +kernel
theorem d_M_aboutOf_9 : decode prog_8_method_17_code 9 = .ok (.if_icmp .ge 27, 3) := by decide +kernel
theorem d_M_aboutOf_12 : decode prog_8_method_17_code 12 = .ok (.iload_n 3, 1) := by decide +kernel
theorem d_M_aboutOf_13 : decode prog_8_method_17_code 13 = .ok (.aload_n 0, 1) := by decide +kernel
theorem d_M_aboutOf_14 : decode prog_8_method_17_code 14 = .ok (.iload_n 1, 1) := by decide +kernel
theorem d_M_aboutOf_15 : decode prog_8_method_17_code 15 = .ok (.iload 4, 2) := by decide +kernel
theorem d_M_aboutOf_17 : decode prog_8_method_17_code 17 = .ok (.invokevirtual 90, 3) := by decide +kernel
theorem d_M_aboutOf_20 : decode prog_8_method_17_code 20 = .ok (.ifCond .eq 7, 3) := by decide +kernel
theorem d_M_aboutOf_23 : decode prog_8_method_17_code 23 = .ok (.iconst 1, 1) := by decide +kernel
theorem d_M_aboutOf_24 : decode prog_8_method_17_code 24 = .ok (.goto 4, 3) := by decide +kernel
theorem d_M_aboutOf_27 : decode prog_8_method_17_code 27 = .ok (.iconst 0, 1) := by decide +kernel
theorem d_M_aboutOf_28 : decode prog_8_method_17_code 28 = .ok (.iadd, 1) := by decide +kernel
theorem d_M_aboutOf_29 : decode prog_8_method_17_code 29 = .ok (.istore_n 3, 1) := by decide +kernel
theorem d_M_aboutOf_30 : decode prog_8_method_17_code 30 = .ok (.iinc 4 1, 3) := by decide +kernel
theorem d_M_aboutOf_33 : decode prog_8_method_17_code 33 = .ok (.goto (-28), 3) := by decide +kernel
theorem d_M_aboutOf_36 : decode prog_8_method_17_code 36 = .ok (.iload_n 2, 1) := by decide +kernel
theorem d_M_aboutOf_37 : decode prog_8_method_17_code 37 = .ok (.ifCond .ne 12, 3) := by decide +kernel
theorem d_M_aboutOf_40 : decode prog_8_method_17_code 40 = .ok (.aload_n 0, 1) := by decide +kernel
theorem d_M_aboutOf_41 : decode prog_8_method_17_code 41 = .ok (.getfield 13, 3) := by decide +kernel
theorem d_M_aboutOf_44 : decode prog_8_method_17_code 44 = .ok (.iload_n 1, 1) := by decide +kernel
theorem d_M_aboutOf_45 : decode prog_8_method_17_code 45 = .ok (.iaload, 1) := by decide +kernel
theorem d_M_aboutOf_46 : decode prog_8_method_17_code 46 = .ok (.goto 34, 3) := by decide +kernel
theorem d_M_aboutOf_49 : decode prog_8_method_17_code 49 = .ok (.iload_n 2, 1) := by decide +kernel
theorem d_M_aboutOf_50 : decode prog_8_method_17_code 50 = .ok (.iconst 1, 1) := by decide +kernel
theorem d_M_aboutOf_51 : decode prog_8_method_17_code 51 = .ok (.if_icmp .ne 19, 3) := by decide +kernel
theorem d_M_aboutOf_54 : decode prog_8_method_17_code 54 = .ok (.aload_n 0, 1) := by decide +kernel
theorem d_M_aboutOf_55 : decode prog_8_method_17_code 55 = .ok (.iload_n 1, 1) := by decide +kernel
theorem d_M_aboutOf_56 : decode prog_8_method_17_code 56 = .ok (.invokevirtual 86, 3) := by decide +kernel
theorem d_M_aboutOf_59 : decode prog_8_method_17_code 59 = .ok (.ifCond .eq 7, 3) := by decide +kernel
theorem d_M_aboutOf_62 : decode prog_8_method_17_code 62 = .ok (.iconst 1, 1) := by decide +kernel
theorem d_M_aboutOf_63 : decode prog_8_method_17_code 63 = .ok (.goto 17, 3) := by decide +kernel
theorem d_M_aboutOf_66 : decode prog_8_method_17_code 66 = .ok (.iconst 0, 1) := by decide +kernel
theorem d_M_aboutOf_67 : decode prog_8_method_17_code 67 = .ok (.goto 13, 3) := by decide +kernel
theorem d_M_aboutOf_70 : decode prog_8_method_17_code 70 = .ok (.iload_n 2, 1) := by decide +kernel
theorem d_M_aboutOf_71 : decode prog_8_method_17_code 71 = .ok (.iconst 2, 1) := by decide +kernel
theorem d_M_aboutOf_72 : decode prog_8_method_17_code 72 = .ok (.if_icmp .ne 7, 3) := by decide +kernel
theorem d_M_aboutOf_75 : decode prog_8_method_17_code 75 = .ok (.iload_n 3, 1) := by decide +kernel
theorem d_M_aboutOf_76 : decode prog_8_method_17_code 76 = .ok (.goto 4, 3) := by decide +kernel
theorem d_M_aboutOf_79 : decode prog_8_method_17_code 79 = .ok (.iconst (-1), 1) := by decide +kernel
theorem d_M_aboutOf_80 : decode prog_8_method_17_code 80 = .ok (.ireturn, 1) := by decide +kernel
theorem d_M_isListed_0 : decode prog_8_method_15_code 0 = .ok (.iload_n 2, 1) := by decide +kernel
theorem d_M_isListed_1 : decode prog_8_method_15_code 1 = .ok (.aload_n 0, 1) := by decide +kernel
theorem d_M_isListed_2 : decode prog_8_method_15_code 2 = .ok (.getfield 7, 3) := by decide +kernel
theorem d_M_isListed_5 : decode prog_8_method_15_code 5 = .ok (.aload_n 0, 1) := by decide +kernel
theorem d_M_isListed_6 : decode prog_8_method_15_code 6 = .ok (.getfield 13, 3) := by decide +kernel
theorem d_M_isListed_9 : decode prog_8_method_15_code 9 = .ok (.iload_n 1, 1) := by decide +kernel
theorem d_M_isListed_10 : decode prog_8_method_15_code 10 = .ok (.iaload, 1) := by decide +kernel
theorem d_M_isListed_11 : decode prog_8_method_15_code 11 = .ok (.iaload, 1) := by decide +kernel
theorem d_M_isListed_12 : decode prog_8_method_15_code 12 = .ok (.if_icmp .ge 21, 3) := by decide +kernel
theorem d_M_isListed_15 : decode prog_8_method_15_code 15 = .ok (.aload_n 0, 1) := by decide +kernel
theorem d_M_isListed_16 : decode prog_8_method_15_code 16 = .ok (.iload_n 1, 1) := by decide +kernel
theorem d_M_isListed_17 : decode prog_8_method_15_code 17 = .ok (.iload_n 2, 1) := by decide +kernel
theorem d_M_isListed_18 : decode prog_8_method_15_code 18 = .ok (.invokevirtual 82, 3) := by decide +kernel
theorem d_M_isListed_21 : decode prog_8_method_15_code 21 = .ok (.aload_n 0, 1) := by decide +kernel
theorem d_M_isListed_22 : decode prog_8_method_15_code 22 = .ok (.iload_n 1, 1) := by decide +kernel
theorem d_M_isListed_23 : decode prog_8_method_15_code 23 = .ok (.invokevirtual 86, 3) := by decide +kernel
theorem d_M_isListed_26 : decode prog_8_method_15_code 26 = .ok (.if_icmp .ne 7, 3) := by decide +kernel
theorem d_M_isListed_29 : decode prog_8_method_15_code 29 = .ok (.iconst 1, 1) := by decide +kernel
theorem d_M_isListed_30 : decode prog_8_method_15_code 30 = .ok (.goto 4, 3) := by decide +kernel
theorem d_M_isListed_33 : decode prog_8_method_15_code 33 = .ok (.iconst 0, 1) := by decide +kernel
theorem d_M_isListed_34 : decode prog_8_method_15_code 34 = .ok (.ireturn, 1) := by decide +kernel
theorem d_M_isWanted_0 : decode prog_8_method_14_code 0 = .ok (.aload_n 0, 1) := by decide +kernel
theorem d_M_isWanted_1 : decode prog_8_method_14_code 1 = .ok (.iload_n 1, 1) := by decide +kernel
theorem d_M_isWanted_2 : decode prog_8_method_14_code 2 = .ok (.iconst (-1), 1) := by decide +kernel
theorem d_M_isWanted_3 : decode prog_8_method_14_code 3 = .ok (.invokevirtual 82, 3) := by decide +kernel
theorem d_M_isWanted_6 : decode prog_8_method_14_code 6 = .ok (.ifCond .ne 7, 3) := by decide +kernel
theorem d_M_isWanted_9 : decode prog_8_method_14_code 9 = .ok (.iconst 1, 1) := by decide +kernel
theorem d_M_isWanted_10 : decode prog_8_method_14_code 10 = .ok (.goto 4, 3) := by decide +kernel
theorem d_M_isWanted_13 : decode prog_8_method_14_code 13 = .ok (.iconst 0, 1) := by decide +kernel
theorem d_M_isWanted_14 : decode prog_8_method_14_code 14 = .ok (.ireturn, 1) := by decide +kernel
theorem d_M_set_0 : decode prog_8_method_23_code 0 = .ok (.aload_n 0, 1) := by decide +kernel
theorem d_M_set_1 : decode prog_8_method_23_code 1 = .ok (.iconst 0, 1) := by decide +kernel
theorem d_M_set_2 : decode prog_8_method_23_code 2 = .ok (.putfield 61, 3) := by decide +kernel
theorem d_M_set_5 : decode prog_8_method_23_code 5 = .ok (.aload_n 0, 1) := by decide +kernel
theorem d_M_set_6 : decode prog_8_method_23_code 6 = .ok (.iload_n 1, 1) := by decide +kernel
theorem d_M_set_7 : decode prog_8_method_23_code 7 = .ok (.invokevirtual 100, 3) := by decide +kernel
theorem d_M_set_10 : decode prog_8_method_23_code 10 = .ok (.ifCond .eq 11, 3) := by decide +kernel
theorem d_M_set_13 : decode prog_8_method_23_code 13 = .ok (.aload_n 0, 1) := by decide +kernel
theorem d_M_set_14 : decode prog_8_method_23_code 14 = .ok (.iload_n 1, 1) := by decide +kernel
theorem d_M_set_15 : decode prog_8_method_23_code 15 = .ok (.invokevirtual 114, 3) := by decide +kernel
theorem d_M_set_18 : decode prog_8_method_23_code 18 = .ok (.goto 4, 3) := by decide +kernel
theorem d_M_set_21 : decode prog_8_method_23_code 21 = .ok (.lconst 0, 1) := by decide +kernel
theorem d_M_set_22 : decode prog_8_method_23_code 22 = .ok (.lreturn, 1) := by decide +kernel
theorem d_M_setOf_0 : decode prog_8_method_16_code 0 = .ok (.lconst 0, 1) := by decide +kernel
theorem d_M_setOf_1 : decode prog_8_method_16_code 1 = .ok (.lstore_n 2, 1) := by decide +kernel
theorem d_M_setOf_2 : decode prog_8_method_16_code 2 = .ok (.iconst 0, 1) := by decide +kernel
theorem d_M_setOf_3 : decode prog_8_method_16_code 3 = .ok (.istore 4, 2) := by decide +kernel
theorem d_M_setOf_5 : decode prog_8_method_16_code 5 = .ok (.iload 4, 2) := by decide +kernel
theorem d_M_setOf_7 : decode prog_8_method_16_code 7 = .ok (.bipush 48, 2) := by decide +kernel
theorem d_M_setOf_9 : decode prog_8_method_16_code 9 = .ok (.if_icmp .ge 30, 3) := by decide +kernel
theorem d_M_setOf_12 : decode prog_8_method_16_code 12 = .ok (.lload_n 2, 1) := by decide +kernel
theorem d_M_setOf_13 : decode prog_8_method_16_code 13 = .ok (.aload_n 0, 1) := by decide +kernel
theorem d_M_setOf_14 : decode prog_8_method_16_code 14 = .ok (.iload_n 1, 1) := by decide +kernel
theorem d_M_setOf_15 : decode prog_8_method_16_code 15 = .ok (.iload 4, 2) := by decide +kernel
theorem d_M_setOf_17 : decode prog_8_method_16_code 17 = .ok (.invokevirtual 90, 3) := by decide +kernel
theorem d_M_setOf_20 : decode prog_8_method_16_code 20 = .ok (.ifCond .eq 10, 3) := by decide +kernel
theorem d_M_setOf_23 : decode prog_8_method_16_code 23 = .ok (.lconst 1, 1) := by decide +kernel
theorem d_M_setOf_24 : decode prog_8_method_16_code 24 = .ok (.iload 4, 2) := by decide +kernel
theorem d_M_setOf_26 : decode prog_8_method_16_code 26 = .ok (.lshl, 1) := by decide +kernel
theorem d_M_setOf_27 : decode prog_8_method_16_code 27 = .ok (.goto 4, 3) := by decide +kernel
theorem d_M_setOf_30 : decode prog_8_method_16_code 30 = .ok (.lconst 0, 1) := by decide +kernel
theorem d_M_setOf_31 : decode prog_8_method_16_code 31 = .ok (.lor, 1) := by decide +kernel
theorem d_M_setOf_32 : decode prog_8_method_16_code 32 = .ok (.lstore_n 2, 1) := by decide +kernel
theorem d_M_setOf_33 : decode prog_8_method_16_code 33 = .ok (.iinc 4 1, 3) := by decide +kernel
theorem d_M_setOf_36 : decode prog_8_method_16_code 36 = .ok (.goto (-31), 3) := by decide +kernel
theorem d_M_setOf_39 : decode prog_8_method_16_code 39 = .ok (.lload_n 2, 1) := by decide +kernel
theorem d_M_setOf_40 : decode prog_8_method_16_code 40 = .ok (.lreturn, 1) := by decide +kernel
theorem d_M_needs_0 : decode prog_8_method_25_code 0 = .ok (.aload_n 0, 1) := by decide +kernel
theorem d_M_needs_1 : decode prog_8_method_25_code 1 = .ok (.iconst 0, 1) := by decide +kernel
theorem d_M_needs_2 : decode prog_8_method_25_code 2 = .ok (.putfield 61, 3) := by decide +kernel
theorem d_M_needs_5 : decode prog_8_method_25_code 5 = .ok (.aload_n 0, 1) := by decide +kernel
theorem d_M_needs_6 : decode prog_8_method_25_code 6 = .ok (.iload_n 1, 1) := by decide +kernel
theorem d_M_needs_7 : decode prog_8_method_25_code 7 = .ok (.invokevirtual 93, 3) := by decide +kernel
theorem d_M_needs_10 : decode prog_8_method_25_code 10 = .ok (.ifCond .eq 52, 3) := by decide +kernel
theorem d_M_needs_13 : decode prog_8_method_25_code 13 = .ok (.iload_n 2, 1) := by decide +kernel
theorem d_M_needs_14 : decode prog_8_method_25_code 14 = .ok (.ifCond .lt 48, 3) := by decide +kernel
theorem d_M_needs_17 : decode prog_8_method_25_code 17 = .ok (.iload_n 2, 1) := by decide +kernel
theorem d_M_needs_18 : decode prog_8_method_25_code 18 = .ok (.aload_n 0, 1) := by decide +kernel
theorem d_M_needs_19 : decode prog_8_method_25_code 19 = .ok (.getfield 7, 3) := by decide +kernel
theorem d_M_needs_22 : decode prog_8_method_25_code 22 = .ok (.iload_n 1, 1) := by decide +kernel
theorem d_M_needs_23 : decode prog_8_method_25_code 23 = .ok (.iaload, 1) := by decide +kernel
theorem d_M_needs_24 : decode prog_8_method_25_code 24 = .ok (.if_icmp .ge 38, 3) := by decide +kernel
theorem d_M_needs_27 : decode prog_8_method_25_code 27 = .ok (.aload_n 0, 1) := by decide +kernel
theorem d_M_needs_28 : decode prog_8_method_25_code 28 = .ok (.iload_n 3, 1) := by decide +kernel
theorem d_M_needs_29 : decode prog_8_method_25_code 29 = .ok (.invokevirtual 93, 3) := by decide +kernel
theorem d_M_needs_32 : decode prog_8_method_25_code 32 = .ok (.ifCond .eq 30, 3) := by decide +kernel
theorem d_M_needs_35 : decode prog_8_method_25_code 35 = .ok (.iload_n 3, 1) := by decide +kernel
theorem d_M_needs_36 : decode prog_8_method_25_code 36 = .ok (.iload_n 1, 1) := by decide +kernel
theorem d_M_needs_37 : decode prog_8_method_25_code 37 = .ok (.if_icmp .eq 25, 3) := by decide +kernel
theorem d_M_needs_40 : decode prog_8_method_25_code 40 = .ok (.iload 6, 2) := by decide +kernel
theorem d_M_needs_42 : decode prog_8_method_25_code 42 = .ok (.ifCond .lt 20, 3) := by decide +kernel
theorem d_M_needs_45 : decode prog_8_method_25_code 45 = .ok (.iload 6, 2) := by decide +kernel
theorem d_M_needs_47 : decode prog_8_method_25_code 47 = .ok (.bipush 8, 2) := by decide +kernel
theorem d_M_needs_49 : decode prog_8_method_25_code 49 = .ok (.if_icmp .ge 13, 3) := by decide +kernel
theorem d_M_needs_52 : decode prog_8_method_25_code 52 = .ok (.aload_n 0, 1) := by decide +kernel
theorem d_M_needs_53 : decode prog_8_method_25_code 53 = .ok (.getfield 118, 3) := by decide +kernel
theorem d_M_needs_56 : decode prog_8_method_25_code 56 = .ok (.sipush 400, 3) := by decide +kernel
theorem d_M_needs_59 : decode prog_8_method_25_code 59 = .ok (.if_icmp .ne 5, 3) := by decide +kernel
theorem d_M_needs_62 : decode prog_8_method_25_code 62 = .ok (.iconst 0, 1) := by decide +kernel
theorem d_M_needs_63 : decode prog_8_method_25_code 63 = .ok (.ireturn, 1) := by decide +kernel
theorem d_M_needs_64 : decode prog_8_method_25_code 64 = .ok (.aload_n 0, 1) := by decide +kernel
theorem d_M_needs_65 : decode prog_8_method_25_code 65 = .ok (.getfield 43, 3) := by decide +kernel
theorem d_M_needs_68 : decode prog_8_method_25_code 68 = .ok (.aload_n 0, 1) := by decide +kernel
theorem d_M_needs_69 : decode prog_8_method_25_code 69 = .ok (.getfield 118, 3) := by decide +kernel
theorem d_M_needs_72 : decode prog_8_method_25_code 72 = .ok (.iload_n 1, 1) := by decide +kernel
theorem d_M_needs_73 : decode prog_8_method_25_code 73 = .ok (.iastore, 1) := by decide +kernel
theorem d_M_needs_74 : decode prog_8_method_25_code 74 = .ok (.aload_n 0, 1) := by decide +kernel
theorem d_M_needs_75 : decode prog_8_method_25_code 75 = .ok (.getfield 46, 3) := by decide +kernel
theorem d_M_needs_78 : decode prog_8_method_25_code 78 = .ok (.aload_n 0, 1) := by decide +kernel
theorem d_M_needs_79 : decode prog_8_method_25_code 79 = .ok (.getfield 118, 3) := by decide +kernel
theorem d_M_needs_82 : decode prog_8_method_25_code 82 = .ok (.iload_n 2, 1) := by decide +kernel
theorem d_M_needs_83 : decode prog_8_method_25_code 83 = .ok (.iastore, 1) := by decide +kernel
theorem d_M_needs_84 : decode prog_8_method_25_code 84 = .ok (.aload_n 0, 1) := by decide +kernel
theorem d_M_needs_85 : decode prog_8_method_25_code 85 = .ok (.getfield 49, 3) := by decide +kernel
theorem d_M_needs_88 : decode prog_8_method_25_code 88 = .ok (.aload_n 0, 1) := by decide +kernel
theorem d_M_needs_89 : decode prog_8_method_25_code 89 = .ok (.getfield 118, 3) := by decide +kernel
theorem d_M_needs_92 : decode prog_8_method_25_code 92 = .ok (.iload_n 3, 1) := by decide +kernel
theorem d_M_needs_93 : decode prog_8_method_25_code 93 = .ok (.iastore, 1) := by decide +kernel
theorem d_M_needs_94 : decode prog_8_method_25_code 94 = .ok (.aload_n 0, 1) := by decide +kernel
theorem d_M_needs_95 : decode prog_8_method_25_code 95 = .ok (.getfield 55, 3) := by decide +kernel
theorem d_M_needs_98 : decode prog_8_method_25_code 98 = .ok (.aload_n 0, 1) := by decide +kernel
theorem d_M_needs_99 : decode prog_8_method_25_code 99 = .ok (.getfield 118, 3) := by decide +kernel
theorem d_M_needs_102 : decode prog_8_method_25_code 102 = .ok (.aload_n 0, 1) := by decide +kernel
theorem d_M_needs_103 : decode prog_8_method_25_code 103 = .ok (.iload_n 3, 1) := by decide +kernel
theorem d_M_needs_104 : decode prog_8_method_25_code 104 = .ok (.lload 4, 2) := by decide +kernel
theorem d_M_needs_106 : decode prog_8_method_25_code 106 = .ok (.invokevirtual 121, 3) := by decide +kernel
theorem d_M_needs_109 : decode prog_8_method_25_code 109 = .ok (.lastore, 1) := by decide +kernel
theorem d_M_needs_110 : decode prog_8_method_25_code 110 = .ok (.aload_n 0, 1) := by decide +kernel
theorem d_M_needs_111 : decode prog_8_method_25_code 111 = .ok (.getfield 52, 3) := by decide +kernel
theorem d_M_needs_114 : decode prog_8_method_25_code 114 = .ok (.aload_n 0, 1) := by decide +kernel
theorem d_M_needs_115 : decode prog_8_method_25_code 115 = .ok (.getfield 118, 3) := by decide +kernel
theorem d_M_needs_118 : decode prog_8_method_25_code 118 = .ok (.iload 6, 2) := by decide +kernel
theorem d_M_needs_120 : decode prog_8_method_25_code 120 = .ok (.iastore, 1) := by decide +kernel
theorem d_M_needs_121 : decode prog_8_method_25_code 121 = .ok (.aload_n 0, 1) := by decide +kernel
theorem d_M_needs_122 : decode prog_8_method_25_code 122 = .ok (.dup, 1) := by decide +kernel
theorem d_M_needs_123 : decode prog_8_method_25_code 123 = .ok (.getfield 118, 3) := by decide +kernel
theorem d_M_needs_126 : decode prog_8_method_25_code 126 = .ok (.iconst 1, 1) := by decide +kernel
theorem d_M_needs_127 : decode prog_8_method_25_code 127 = .ok (.iadd, 1) := by decide +kernel
theorem d_M_needs_128 : decode prog_8_method_25_code 128 = .ok (.putfield 118, 3) := by decide +kernel
theorem d_M_needs_131 : decode prog_8_method_25_code 131 = .ok (.iconst 1, 1) := by decide +kernel
theorem d_M_needs_132 : decode prog_8_method_25_code 132 = .ok (.ireturn, 1) := by decide +kernel
theorem d_M_there_0 : decode prog_8_method_24_code 0 = .ok (.lconst 0, 1) := by decide +kernel
theorem d_M_there_1 : decode prog_8_method_24_code 1 = .ok (.lstore 4, 2) := by decide +kernel
theorem d_M_there_3 : decode prog_8_method_24_code 3 = .ok (.iconst 0, 1) := by decide +kernel
theorem d_M_there_4 : decode prog_8_method_24_code 4 = .ok (.istore 6, 2) := by decide +kernel
theorem d_M_there_6 : decode prog_8_method_24_code 6 = .ok (.iload 6, 2) := by decide +kernel
theorem d_M_there_8 : decode prog_8_method_24_code 8 = .ok (.aload_n 0, 1) := by decide +kernel
theorem d_M_there_9 : decode prog_8_method_24_code 9 = .ok (.getfield 7, 3) := by decide +kernel
theorem d_M_there_12 : decode prog_8_method_24_code 12 = .ok (.iload_n 1, 1) := by decide +kernel
theorem d_M_there_13 : decode prog_8_method_24_code 13 = .ok (.iaload, 1) := by decide +kernel
theorem d_M_there_14 : decode prog_8_method_24_code 14 = .ok (.if_icmp .ge 20, 3) := by decide +kernel
theorem d_M_there_17 : decode prog_8_method_24_code 17 = .ok (.lload 4, 2) := by decide +kernel
theorem d_M_there_19 : decode prog_8_method_24_code 19 = .ok (.lload_n 2, 1) := by decide +kernel
theorem d_M_there_20 : decode prog_8_method_24_code 20 = .ok (.lconst 1, 1) := by decide +kernel
theorem d_M_there_21 : decode prog_8_method_24_code 21 = .ok (.iload 6, 2) := by decide +kernel
theorem d_M_there_23 : decode prog_8_method_24_code 23 = .ok (.lshl, 1) := by decide +kernel
theorem d_M_there_24 : decode prog_8_method_24_code 24 = .ok (.land, 1) := by decide +kernel
theorem d_M_there_25 : decode prog_8_method_24_code 25 = .ok (.lor, 1) := by decide +kernel
theorem d_M_there_26 : decode prog_8_method_24_code 26 = .ok (.lstore 4, 2) := by decide +kernel
theorem d_M_there_28 : decode prog_8_method_24_code 28 = .ok (.iinc 6 1, 3) := by decide +kernel
theorem d_M_there_31 : decode prog_8_method_24_code 31 = .ok (.goto (-25), 3) := by decide +kernel
theorem d_M_there_34 : decode prog_8_method_24_code 34 = .ok (.lload 4, 2) := by decide +kernel
theorem d_M_there_36 : decode prog_8_method_24_code 36 = .ok (.lreturn, 1) := by decide +kernel
theorem d_M_derive_0 : decode prog_8_method_32_code 0 = .ok (.aload_n 0, 1) := by decide +kernel
theorem d_M_derive_1 : decode prog_8_method_32_code 1 = .ok (.iconst 0, 1) := by decide +kernel
theorem d_M_derive_2 : decode prog_8_method_32_code 2 = .ok (.putfield 61, 3) := by decide +kernel
theorem d_M_derive_5 : decode prog_8_method_32_code 5 = .ok (.aload_n 0, 1) := by decide +kernel
theorem d_M_derive_6 : decode prog_8_method_32_code 6 = .ok (.iload_n 1, 1) := by decide +kernel
theorem d_M_derive_7 : decode prog_8_method_32_code 7 = .ok (.invokevirtual 93, 3) := by decide +kernel
theorem d_M_derive_10 : decode prog_8_method_32_code 10 = .ok (.ifCond .eq 17, 3) := by decide +kernel
theorem d_M_derive_13 : decode prog_8_method_32_code 13 = .ok (.iload_n 2, 1) := by decide +kernel
theorem d_M_derive_14 : decode prog_8_method_32_code 14 = .ok (.ifCond .lt 13, 3) := by decide +kernel
theorem d_M_derive_17 : decode prog_8_method_32_code 17 = .ok (.iload_n 2, 1) := by decide +kernel
theorem d_M_derive_18 : decode prog_8_method_32_code 18 = .ok (.aload_n 0, 1) := by decide +kernel
theorem d_M_derive_19 : decode prog_8_method_32_code 19 = .ok (.getfield 7, 3) := by decide +kernel
theorem d_M_derive_22 : decode prog_8_method_32_code 22 = .ok (.iload_n 1, 1) := by decide +kernel
theorem d_M_derive_23 : decode prog_8_method_32_code 23 = .ok (.iaload, 1) := by decide +kernel
theorem d_M_derive_24 : decode prog_8_method_32_code 24 = .ok (.if_icmp .lt 5, 3) := by decide +kernel
theorem d_M_derive_27 : decode prog_8_method_32_code 27 = .ok (.iconst (-1), 1) := by decide +kernel
theorem d_M_derive_28 : decode prog_8_method_32_code 28 = .ok (.ireturn, 1) := by decide +kernel
theorem d_M_derive_29 : decode prog_8_method_32_code 29 = .ok (.aload_n 0, 1) := by decide +kernel
theorem d_M_derive_30 : decode prog_8_method_32_code 30 = .ok (.getfield 71, 3) := by decide +kernel
theorem d_M_derive_33 : decode prog_8_method_32_code 33 = .ok (.istore_n 3, 1) := by decide +kernel
theorem d_M_derive_34 : decode prog_8_method_32_code 34 = .ok (.iconst 0, 1) := by decide +kernel
theorem d_M_derive_35 : decode prog_8_method_32_code 35 = .ok (.istore 4, 2) := by decide +kernel
theorem d_M_derive_37 : decode prog_8_method_32_code 37 = .ok (.iload 4, 2) := by decide +kernel
theorem d_M_derive_39 : decode prog_8_method_32_code 39 = .ok (.aload_n 0, 1) := by decide +kernel
theorem d_M_derive_40 : decode prog_8_method_32_code 40 = .ok (.getfield 118, 3) := by decide +kernel
theorem d_M_derive_43 : decode prog_8_method_32_code 43 = .ok (.if_icmp .ge 70, 3) := by decide +kernel
theorem d_M_derive_46 : decode prog_8_method_32_code 46 = .ok (.aload_n 0, 1) := by decide +kernel
theorem d_M_derive_47 : decode prog_8_method_32_code 47 = .ok (.getfield 43, 3) := by decide +kernel
theorem d_M_derive_50 : decode prog_8_method_32_code 50 = .ok (.iload 4, 2) := by decide +kernel
theorem d_M_derive_52 : decode prog_8_method_32_code 52 = .ok (.iaload, 1) := by decide +kernel
theorem d_M_derive_53 : decode prog_8_method_32_code 53 = .ok (.iload_n 1, 1) := by decide +kernel
theorem d_M_derive_54 : decode prog_8_method_32_code 54 = .ok (.if_icmp .ne 53, 3) := by decide +kernel
theorem d_M_derive_57 : decode prog_8_method_32_code 57 = .ok (.aload_n 0, 1) := by decide +kernel
theorem d_M_derive_58 : decode prog_8_method_32_code 58 = .ok (.getfield 46, 3) := by decide +kernel
theorem d_M_derive_61 : decode prog_8_method_32_code 61 = .ok (.iload 4, 2) := by decide +kernel
theorem d_M_derive_63 : decode prog_8_method_32_code 63 = .ok (.iaload, 1) := by decide +kernel
theorem d_M_derive_64 : decode prog_8_method_32_code 64 = .ok (.iload_n 2, 1) := by decide +kernel
theorem d_M_derive_65 : decode prog_8_method_32_code 65 = .ok (.if_icmp .ne 42, 3) := by decide +kernel
theorem d_M_derive_68 : decode prog_8_method_32_code 68 = .ok (.aload_n 0, 1) := by decide +kernel
theorem d_M_derive_69 : decode prog_8_method_32_code 69 = .ok (.iload 4, 2) := by decide +kernel
theorem d_M_derive_71 : decode prog_8_method_32_code 71 = .ok (.aload_n 0, 1) := by decide +kernel
theorem d_M_derive_72 : decode prog_8_method_32_code 72 = .ok (.getfield 71, 3) := by decide +kernel
theorem d_M_derive_75 : decode prog_8_method_32_code 75 = .ok (.invokevirtual 145, 3) := by decide +kernel
theorem d_M_derive_78 : decode prog_8_method_32_code 78 = .ok (.ifCond .eq 6, 3) := by decide +kernel
theorem d_M_derive_81 : decode prog_8_method_32_code 81 = .ok (.goto 26, 3) := by decide +kernel
theorem d_M_derive_84 : decode prog_8_method_32_code 84 = .ok (.aload_n 0, 1) := by decide +kernel
theorem d_M_derive_85 : decode prog_8_method_32_code 85 = .ok (.getfield 71, 3) := by decide +kernel
theorem d_M_derive_88 : decode prog_8_method_32_code 88 = .ok (.sipush 300, 3) := by decide +kernel
theorem d_M_derive_91 : decode prog_8_method_32_code 91 = .ok (.if_icmp .ne 10, 3) := by decide +kernel
theorem d_M_derive_94 : decode prog_8_method_32_code 94 = .ok (.aload_n 0, 1) := by decide +kernel
theorem d_M_derive_95 : decode prog_8_method_32_code 95 = .ok (.iload_n 3, 1) := by decide +kernel
theorem d_M_derive_96 : decode prog_8_method_32_code 96 = .ok (.putfield 71, 3) := by decide +kernel
theorem d_M_derive_99 : decode prog_8_method_32_code 99 = .ok (.iconst (-1), 1) := by decide +kernel
theorem d_M_derive_100 : decode prog_8_method_32_code 100 = .ok (.ireturn, 1) := by decide +kernel
theorem d_M_derive_101 : decode prog_8_method_32_code 101 = .ok (.aload_n 0, 1) := by decide +kernel
theorem d_M_derive_102 : decode prog_8_method_32_code 102 = .ok (.iload 4, 2) := by decide +kernel
theorem d_M_derive_104 : decode prog_8_method_32_code 104 = .ok (.invokevirtual 148, 3) := by decide +kernel
theorem d_M_derive_107 : decode prog_8_method_32_code 107 = .ok (.iinc 4 1, 3) := by decide +kernel
theorem d_M_derive_110 : decode prog_8_method_32_code 110 = .ok (.goto (-73), 3) := by decide +kernel
theorem d_M_derive_113 : decode prog_8_method_32_code 113 = .ok (.aload_n 0, 1) := by decide +kernel
theorem d_M_derive_114 : decode prog_8_method_32_code 114 = .ok (.getfield 71, 3) := by decide +kernel
theorem d_M_derive_117 : decode prog_8_method_32_code 117 = .ok (.iload_n 3, 1) := by decide +kernel
theorem d_M_derive_118 : decode prog_8_method_32_code 118 = .ok (.isub, 1) := by decide +kernel
theorem d_M_derive_119 : decode prog_8_method_32_code 119 = .ok (.ireturn, 1) := by decide +kernel
theorem d_M_isDerived_0 : decode prog_8_method_28_code 0 = .ok (.iconst 0, 1) := by decide +kernel
theorem d_M_isDerived_1 : decode prog_8_method_28_code 1 = .ok (.istore_n 3, 1) := by decide +kernel
theorem d_M_isDerived_2 : decode prog_8_method_28_code 2 = .ok (.iconst 0, 1) := by decide +kernel
theorem d_M_isDerived_3 : decode prog_8_method_28_code 3 = .ok (.istore 4, 2) := by decide +kernel
theorem d_M_isDerived_5 : decode prog_8_method_28_code 5 = .ok (.iload 4, 2) := by decide +kernel
theorem d_M_isDerived_7 : decode prog_8_method_28_code 7 = .ok (.iload_n 2, 1) := by decide +kernel
theorem d_M_isDerived_8 : decode prog_8_method_28_code 8 = .ok (.if_icmp .ge 116, 3) := by decide +kernel
theorem d_M_isDerived_11 : decode prog_8_method_28_code 11 = .ok (.iload_n 3, 1) := by decide +kernel
theorem d_M_isDerived_12 : decode prog_8_method_28_code 12 = .ok (.ifCond .ne 100, 3) := by decide +kernel
theorem d_M_isDerived_15 : decode prog_8_method_28_code 15 = .ok (.aload_n 0, 1) := by decide +kernel
theorem d_M_isDerived_16 : decode prog_8_method_28_code 16 = .ok (.getfield 24, 3) := by decide +kernel
theorem d_M_isDerived_19 : decode prog_8_method_28_code 19 = .ok (.iload 4, 2) := by decide +kernel
theorem d_M_isDerived_21 : decode prog_8_method_28_code 21 = .ok (.iaload, 1) := by decide +kernel
theorem d_M_isDerived_22 : decode prog_8_method_28_code 22 = .ok (.aload_n 0, 1) := by decide +kernel
theorem d_M_isDerived_23 : decode prog_8_method_28_code 23 = .ok (.getfield 43, 3) := by decide +kernel
theorem d_M_isDerived_26 : decode prog_8_method_28_code 26 = .ok (.iload_n 1, 1) := by decide +kernel
theorem d_M_isDerived_27 : decode prog_8_method_28_code 27 = .ok (.iaload, 1) := by decide +kernel
theorem d_M_isDerived_28 : decode prog_8_method_28_code 28 = .ok (.if_icmp .ne 88, 3) := by decide +kernel
theorem d_M_isDerived_31 : decode prog_8_method_28_code 31 = .ok (.aload_n 0, 1) := by decide +kernel
theorem d_M_isDerived_32 : decode prog_8_method_28_code 32 = .ok (.getfield 27, 3) := by decide +kernel
theorem d_M_isDerived_35 : decode prog_8_method_28_code 35 = .ok (.iload 4, 2) := by decide +kernel
theorem d_M_isDerived_37 : decode prog_8_method_28_code 37 = .ok (.iaload, 1) := by decide +kernel
theorem d_M_isDerived_38 : decode prog_8_method_28_code 38 = .ok (.aload_n 0, 1) := by decide +kernel
theorem d_M_isDerived_39 : decode prog_8_method_28_code 39 = .ok (.getfield 46, 3) := by decide +kernel
theorem d_M_isDerived_42 : decode prog_8_method_28_code 42 = .ok (.iload_n 1, 1) := by decide +kernel
theorem d_M_isDerived_43 : decode prog_8_method_28_code 43 = .ok (.iaload, 1) := by decide +kernel
theorem d_M_isDerived_44 : decode prog_8_method_28_code 44 = .ok (.if_icmp .gt 72, 3) := by decide +kernel
theorem d_M_isDerived_47 : decode prog_8_method_28_code 47 = .ok (.aload_n 0, 1) := by decide +kernel
theorem d_M_isDerived_48 : decode prog_8_method_28_code 48 = .ok (.getfield 30, 3) := by decide +kernel
theorem d_M_isDerived_51 : decode prog_8_method_28_code 51 = .ok (.iload 4, 2) := by decide +kernel
theorem d_M_isDerived_53 : decode prog_8_method_28_code 53 = .ok (.iaload, 1) := by decide +kernel
theorem d_M_isDerived_54 : decode prog_8_method_28_code 54 = .ok (.aload_n 0, 1) := by decide +kernel
theorem d_M_isDerived_55 : decode prog_8_method_28_code 55 = .ok (.getfield 46, 3) := by decide +kernel
theorem d_M_isDerived_58 : decode prog_8_method_28_code 58 = .ok (.iload_n 1, 1) := by decide +kernel
theorem d_M_isDerived_59 : decode prog_8_method_28_code 59 = .ok (.iaload, 1) := by decide +kernel
theorem d_M_isDerived_60 : decode prog_8_method_28_code 60 = .ok (.if_icmp .lt 56, 3) := by decide +kernel
theorem d_M_isDerived_63 : decode prog_8_method_28_code 63 = .ok (.aload_n 0, 1) := by decide +kernel
theorem d_M_isDerived_64 : decode prog_8_method_28_code 64 = .ok (.getfield 33, 3) := by decide +kernel
theorem d_M_isDerived_67 : decode prog_8_method_28_code 67 = .ok (.iload 4, 2) := by decide +kernel
theorem d_M_isDerived_69 : decode prog_8_method_28_code 69 = .ok (.iaload, 1) := by decide +kernel
theorem d_M_isDerived_70 : decode prog_8_method_28_code 70 = .ok (.aload_n 0, 1) := by decide +kernel
theorem d_M_isDerived_71 : decode prog_8_method_28_code 71 = .ok (.getfield 49, 3) := by decide +kernel
theorem d_M_isDerived_74 : decode prog_8_method_28_code 74 = .ok (.iload_n 1, 1) := by decide +kernel
theorem d_M_isDerived_75 : decode prog_8_method_28_code 75 = .ok (.iaload, 1) := by decide +kernel
theorem d_M_isDerived_76 : decode prog_8_method_28_code 76 = .ok (.if_icmp .ne 40, 3) := by decide +kernel
theorem d_M_isDerived_79 : decode prog_8_method_28_code 79 = .ok (.aload_n 0, 1) := by decide +kernel
theorem d_M_isDerived_80 : decode prog_8_method_28_code 80 = .ok (.getfield 39, 3) := by decide +kernel
theorem d_M_isDerived_83 : decode prog_8_method_28_code 83 = .ok (.iload 4, 2) := by decide +kernel
theorem d_M_isDerived_85 : decode prog_8_method_28_code 85 = .ok (.laload, 1) := by decide +kernel
theorem d_M_isDerived_86 : decode prog_8_method_28_code 86 = .ok (.aload_n 0, 1) := by decide +kernel
theorem d_M_isDerived_87 : decode prog_8_method_28_code 87 = .ok (.getfield 55, 3) := by decide +kernel
theorem d_M_isDerived_90 : decode prog_8_method_28_code 90 = .ok (.iload_n 1, 1) := by decide +kernel
theorem d_M_isDerived_91 : decode prog_8_method_28_code 91 = .ok (.laload, 1) := by decide +kernel
theorem d_M_isDerived_92 : decode prog_8_method_28_code 92 = .ok (.lcmp, 1) := by decide +kernel
theorem d_M_isDerived_93 : decode prog_8_method_28_code 93 = .ok (.ifCond .ne 23, 3) := by decide +kernel
theorem d_M_isDerived_96 : decode prog_8_method_28_code 96 = .ok (.aload_n 0, 1) := by decide +kernel
theorem d_M_isDerived_97 : decode prog_8_method_28_code 97 = .ok (.getfield 36, 3) := by decide +kernel
theorem d_M_isDerived_100 : decode prog_8_method_28_code 100 = .ok (.iload 4, 2) := by decide +kernel
theorem d_M_isDerived_102 : decode prog_8_method_28_code 102 = .ok (.iaload, 1) := by decide +kernel
theorem d_M_isDerived_103 : decode prog_8_method_28_code 103 = .ok (.aload_n 0, 1) := by decide +kernel
theorem d_M_isDerived_104 : decode prog_8_method_28_code 104 = .ok (.getfield 52, 3) := by decide +kernel
theorem d_M_isDerived_107 : decode prog_8_method_28_code 107 = .ok (.iload_n 1, 1) := by decide +kernel
theorem d_M_isDerived_108 : decode prog_8_method_28_code 108 = .ok (.iaload, 1) := by decide +kernel
theorem d_M_isDerived_109 : decode prog_8_method_28_code 109 = .ok (.if_icmp .ne 7, 3) := by decide +kernel
theorem d_M_isDerived_112 : decode prog_8_method_28_code 112 = .ok (.iconst 1, 1) := by decide +kernel
theorem d_M_isDerived_113 : decode prog_8_method_28_code 113 = .ok (.goto 4, 3) := by decide +kernel
theorem d_M_isDerived_116 : decode prog_8_method_28_code 116 = .ok (.iconst 0, 1) := by decide +kernel
theorem d_M_isDerived_117 : decode prog_8_method_28_code 117 = .ok (.istore_n 3, 1) := by decide +kernel
theorem d_M_isDerived_118 : decode prog_8_method_28_code 118 = .ok (.iinc 4 1, 3) := by decide +kernel
theorem d_M_isDerived_121 : decode prog_8_method_28_code 121 = .ok (.goto (-116), 3) := by decide +kernel
theorem d_M_isDerived_124 : decode prog_8_method_28_code 124 = .ok (.iload_n 3, 1) := by decide +kernel
theorem d_M_isDerived_125 : decode prog_8_method_28_code 125 = .ok (.ireturn, 1) := by decide +kernel
theorem d_M_deriveRow_0 : decode prog_8_method_31_code 0 = .ok (.aload_n 0, 1) := by decide +kernel
theorem d_M_deriveRow_1 : decode prog_8_method_31_code 1 = .ok (.invokevirtual 136, 3) := by decide +kernel
theorem d_M_deriveRow_4 : decode prog_8_method_31_code 4 = .ok (.aload_n 0, 1) := by decide +kernel
theorem d_M_deriveRow_5 : decode prog_8_method_31_code 5 = .ok (.getfield 46, 3) := by decide +kernel
theorem d_M_deriveRow_8 : decode prog_8_method_31_code 8 = .ok (.iload_n 1, 1) := by decide +kernel
theorem d_M_deriveRow_9 : decode prog_8_method_31_code 9 = .ok (.iaload, 1) := by decide +kernel
theorem d_M_deriveRow_10 : decode prog_8_method_31_code 10 = .ok (.istore_n 2, 1) := by decide +kernel
theorem d_M_deriveRow_11 : decode prog_8_method_31_code 11 = .ok (.aload_n 0, 1) := by decide +kernel
theorem d_M_deriveRow_12 : decode prog_8_method_31_code 12 = .ok (.getfield 46, 3) := by decide +kernel
theorem d_M_deriveRow_15 : decode prog_8_method_31_code 15 = .ok (.iload_n 1, 1) := by decide +kernel
theorem d_M_deriveRow_16 : decode prog_8_method_31_code 16 = .ok (.iaload, 1) := by decide +kernel
theorem d_M_deriveRow_17 : decode prog_8_method_31_code 17 = .ok (.istore_n 3, 1) := by decide +kernel
theorem d_M_deriveRow_18 : decode prog_8_method_31_code 18 = .ok (.iload_n 2, 1) := by decide +kernel
theorem d_M_deriveRow_19 : decode prog_8_method_31_code 19 = .ok (.ifCond .le 20, 3) := by decide +kernel
theorem d_M_deriveRow_22 : decode prog_8_method_31_code 22 = .ok (.aload_n 0, 1) := by decide +kernel
theorem d_M_deriveRow_23 : decode prog_8_method_31_code 23 = .ok (.iload_n 2, 1) := by decide +kernel
theorem d_M_deriveRow_24 : decode prog_8_method_31_code 24 = .ok (.iconst 1, 1) := by decide +kernel
theorem d_M_deriveRow_25 : decode prog_8_method_31_code 25 = .ok (.isub, 1) := by decide +kernel
theorem d_M_deriveRow_26 : decode prog_8_method_31_code 26 = .ok (.iload_n 1, 1) := by decide +kernel
theorem d_M_deriveRow_27 : decode prog_8_method_31_code 27 = .ok (.invokevirtual 139, 3) := by decide +kernel
theorem d_M_deriveRow_30 : decode prog_8_method_31_code 30 = .ok (.ifCond .eq 9, 3) := by decide +kernel
theorem d_M_deriveRow_33 : decode prog_8_method_31_code 33 = .ok (.iinc 2 (-1), 3) := by decide +kernel
theorem d_M_deriveRow_36 : decode prog_8_method_31_code 36 = .ok (.goto (-18), 3) := by decide +kernel
theorem d_M_deriveRow_39 : decode prog_8_method_31_code 39 = .ok (.aload_n 0, 1) := by decide +kernel
theorem d_M_deriveRow_40 : decode prog_8_method_31_code 40 = .ok (.iload_n 3, 1) := by decide +kernel
theorem d_M_deriveRow_41 : decode prog_8_method_31_code 41 = .ok (.iconst 1, 1) := by decide +kernel
theorem d_M_deriveRow_42 : decode prog_8_method_31_code 42 = .ok (.iadd, 1) := by decide +kernel
theorem d_M_deriveRow_43 : decode prog_8_method_31_code 43 = .ok (.iload_n 1, 1) := by decide +kernel
theorem d_M_deriveRow_44 : decode prog_8_method_31_code 44 = .ok (.invokevirtual 139, 3) := by decide +kernel
theorem d_M_deriveRow_47 : decode prog_8_method_31_code 47 = .ok (.ifCond .eq 9, 3) := by decide +kernel
theorem d_M_deriveRow_50 : decode prog_8_method_31_code 50 = .ok (.iinc 3 1, 3) := by decide +kernel
theorem d_M_deriveRow_53 : decode prog_8_method_31_code 53 = .ok (.goto (-14), 3) := by decide +kernel
theorem d_M_deriveRow_56 : decode prog_8_method_31_code 56 = .ok (.aload_n 0, 1) := by decide +kernel
theorem d_M_deriveRow_57 : decode prog_8_method_31_code 57 = .ok (.getfield 24, 3) := by decide +kernel
theorem d_M_deriveRow_60 : decode prog_8_method_31_code 60 = .ok (.aload_n 0, 1) := by decide +kernel
theorem d_M_deriveRow_61 : decode prog_8_method_31_code 61 = .ok (.getfield 71, 3) := by decide +kernel
theorem d_M_deriveRow_64 : decode prog_8_method_31_code 64 = .ok (.aload_n 0, 1) := by decide +kernel
theorem d_M_deriveRow_65 : decode prog_8_method_31_code 65 = .ok (.getfield 43, 3) := by decide +kernel
theorem d_M_deriveRow_68 : decode prog_8_method_31_code 68 = .ok (.iload_n 1, 1) := by decide +kernel
theorem d_M_deriveRow_69 : decode prog_8_method_31_code 69 = .ok (.iaload, 1) := by decide +kernel
theorem d_M_deriveRow_70 : decode prog_8_method_31_code 70 = .ok (.iastore, 1) := by decide +kernel
theorem d_M_deriveRow_71 : decode prog_8_method_31_code 71 = .ok (.aload_n 0, 1) := by decide +kernel
theorem d_M_deriveRow_72 : decode prog_8_method_31_code 72 = .ok (.getfield 27, 3) := by decide +kernel
theorem d_M_deriveRow_75 : decode prog_8_method_31_code 75 = .ok (.aload_n 0, 1) := by decide +kernel
theorem d_M_deriveRow_76 : decode prog_8_method_31_code 76 = .ok (.getfield 71, 3) := by decide +kernel
theorem d_M_deriveRow_79 : decode prog_8_method_31_code 79 = .ok (.iload_n 2, 1) := by decide +kernel
theorem d_M_deriveRow_80 : decode prog_8_method_31_code 80 = .ok (.iastore, 1) := by decide +kernel
theorem d_M_deriveRow_81 : decode prog_8_method_31_code 81 = .ok (.aload_n 0, 1) := by decide +kernel
theorem d_M_deriveRow_82 : decode prog_8_method_31_code 82 = .ok (.getfield 30, 3) := by decide +kernel
theorem d_M_deriveRow_85 : decode prog_8_method_31_code 85 = .ok (.aload_n 0, 1) := by decide +kernel
theorem d_M_deriveRow_86 : decode prog_8_method_31_code 86 = .ok (.getfield 71, 3) := by decide +kernel
theorem d_M_deriveRow_89 : decode prog_8_method_31_code 89 = .ok (.iload_n 3, 1) := by decide +kernel
theorem d_M_deriveRow_90 : decode prog_8_method_31_code 90 = .ok (.iastore, 1) := by decide +kernel
theorem d_M_deriveRow_91 : decode prog_8_method_31_code 91 = .ok (.aload_n 0, 1) := by decide +kernel
theorem d_M_deriveRow_92 : decode prog_8_method_31_code 92 = .ok (.getfield 33, 3) := by decide +kernel
theorem d_M_deriveRow_95 : decode prog_8_method_31_code 95 = .ok (.aload_n 0, 1) := by decide +kernel
theorem d_M_deriveRow_96 : decode prog_8_method_31_code 96 = .ok (.getfield 71, 3) := by decide +kernel
theorem d_M_deriveRow_99 : decode prog_8_method_31_code 99 = .ok (.aload_n 0, 1) := by decide +kernel
theorem d_M_deriveRow_100 : decode prog_8_method_31_code 100 = .ok (.getfield 49, 3) := by decide +kernel
theorem d_M_deriveRow_103 : decode prog_8_method_31_code 103 = .ok (.iload_n 1, 1) := by decide +kernel
theorem d_M_deriveRow_104 : decode prog_8_method_31_code 104 = .ok (.iaload, 1) := by decide +kernel
theorem d_M_deriveRow_105 : decode prog_8_method_31_code 105 = .ok (.iastore, 1) := by decide +kernel
theorem d_M_deriveRow_106 : decode prog_8_method_31_code 106 = .ok (.aload_n 0, 1) := by decide +kernel
theorem d_M_deriveRow_107 : decode prog_8_method_31_code 107 = .ok (.getfield 39, 3) := by decide +kernel
theorem d_M_deriveRow_110 : decode prog_8_method_31_code 110 = .ok (.aload_n 0, 1) := by decide +kernel
theorem d_M_deriveRow_111 : decode prog_8_method_31_code 111 = .ok (.getfield 71, 3) := by decide +kernel
theorem d_M_deriveRow_114 : decode prog_8_method_31_code 114 = .ok (.aload_n 0, 1) := by decide +kernel
theorem d_M_deriveRow_115 : decode prog_8_method_31_code 115 = .ok (.getfield 55, 3) := by decide +kernel
theorem d_M_deriveRow_118 : decode prog_8_method_31_code 118 = .ok (.iload_n 1, 1) := by decide +kernel
theorem d_M_deriveRow_119 : decode prog_8_method_31_code 119 = .ok (.laload, 1) := by decide +kernel
theorem d_M_deriveRow_120 : decode prog_8_method_31_code 120 = .ok (.lastore, 1) := by decide +kernel
theorem d_M_deriveRow_121 : decode prog_8_method_31_code 121 = .ok (.aload_n 0, 1) := by decide +kernel
theorem d_M_deriveRow_122 : decode prog_8_method_31_code 122 = .ok (.getfield 36, 3) := by decide +kernel
theorem d_M_deriveRow_125 : decode prog_8_method_31_code 125 = .ok (.aload_n 0, 1) := by decide +kernel
theorem d_M_deriveRow_126 : decode prog_8_method_31_code 126 = .ok (.getfield 71, 3) := by decide +kernel
theorem d_M_deriveRow_129 : decode prog_8_method_31_code 129 = .ok (.aload_n 0, 1) := by decide +kernel
theorem d_M_deriveRow_130 : decode prog_8_method_31_code 130 = .ok (.getfield 52, 3) := by decide +kernel
theorem d_M_deriveRow_133 : decode prog_8_method_31_code 133 = .ok (.iload_n 1, 1) := by decide +kernel
theorem d_M_deriveRow_134 : decode prog_8_method_31_code 134 = .ok (.iaload, 1) := by decide +kernel
theorem d_M_deriveRow_135 : decode prog_8_method_31_code 135 = .ok (.iastore, 1) := by decide +kernel
theorem d_M_deriveRow_136 : decode prog_8_method_31_code 136 = .ok (.aload_n 0, 1) := by decide +kernel
theorem d_M_deriveRow_137 : decode prog_8_method_31_code 137 = .ok (.sipush 5416, 3) := by decide +kernel
theorem d_M_deriveRow_140 : decode prog_8_method_31_code 140 = .ok (.aload_n 0, 1) := by decide +kernel
theorem d_M_deriveRow_141 : decode prog_8_method_31_code 141 = .ok (.getfield 43, 3) := by decide +kernel
theorem d_M_deriveRow_144 : decode prog_8_method_31_code 144 = .ok (.iload_n 1, 1) := by decide +kernel
theorem d_M_deriveRow_145 : decode prog_8_method_31_code 145 = .ok (.iaload, 1) := by decide +kernel
theorem d_M_deriveRow_146 : decode prog_8_method_31_code 146 = .ok (.lconst 1, 1) := by decide +kernel
theorem d_M_deriveRow_147 : decode prog_8_method_31_code 147 = .ok (.iload_n 3, 1) := by decide +kernel
theorem d_M_deriveRow_148 : decode prog_8_method_31_code 148 = .ok (.iconst 1, 1) := by decide +kernel
theorem d_M_deriveRow_149 : decode prog_8_method_31_code 149 = .ok (.iadd, 1) := by decide +kernel
theorem d_M_deriveRow_150 : decode prog_8_method_31_code 150 = .ok (.lshl, 1) := by decide +kernel
theorem d_M_deriveRow_151 : decode prog_8_method_31_code 151 = .ok (.lconst 1, 1) := by decide +kernel
theorem d_M_deriveRow_152 : decode prog_8_method_31_code 152 = .ok (.iload_n 2, 1) := by decide +kernel
theorem d_M_deriveRow_153 : decode prog_8_method_31_code 153 = .ok (.lshl, 1) := by decide +kernel
theorem d_M_deriveRow_154 : decode prog_8_method_31_code 154 = .ok (.lsub, 1) := by decide +kernel
theorem d_M_deriveRow_155 : decode prog_8_method_31_code 155 = .ok (.iconst 1, 1) := by decide +kernel
theorem d_M_deriveRow_156 : decode prog_8_method_31_code 156 = .ok (.invokevirtual 96, 3) := by decide +kernel
theorem d_M_deriveRow_159 : decode prog_8_method_31_code 159 = .ok (.aload_n 0, 1) := by decide +kernel
theorem d_M_deriveRow_160 : decode prog_8_method_31_code 160 = .ok (.sipush 5416, 3) := by decide +kernel
theorem d_M_deriveRow_163 : decode prog_8_method_31_code 163 = .ok (.invokevirtual 142, 3) := by decide +kernel
theorem d_M_deriveRow_166 : decode prog_8_method_31_code 166 = .ok (.aload_n 0, 1) := by decide +kernel
theorem d_M_deriveRow_167 : decode prog_8_method_31_code 167 = .ok (.sipush 5416, 3) := by decide +kernel
theorem d_M_deriveRow_170 : decode prog_8_method_31_code 170 = .ok (.aload_n 0, 1) := by decide +kernel
theorem d_M_deriveRow_171 : decode prog_8_method_31_code 171 = .ok (.getfield 49, 3) := by decide +kernel
theorem d_M_deriveRow_174 : decode prog_8_method_31_code 174 = .ok (.iload_n 1, 1) := by decide +kernel
theorem d_M_deriveRow_175 : decode prog_8_method_31_code 175 = .ok (.iaload, 1) := by decide +kernel
theorem d_M_deriveRow_176 : decode prog_8_method_31_code 176 = .ok (.aload_n 0, 1) := by decide +kernel
theorem d_M_deriveRow_177 : decode prog_8_method_31_code 177 = .ok (.getfield 55, 3) := by decide +kernel
theorem d_M_deriveRow_180 : decode prog_8_method_31_code 180 = .ok (.iload_n 1, 1) := by decide +kernel
theorem d_M_deriveRow_181 : decode prog_8_method_31_code 181 = .ok (.laload, 1) := by decide +kernel
theorem d_M_deriveRow_182 : decode prog_8_method_31_code 182 = .ok (.iconst 0, 1) := by decide +kernel
theorem d_M_deriveRow_183 : decode prog_8_method_31_code 183 = .ok (.invokevirtual 96, 3) := by decide +kernel
theorem d_M_deriveRow_186 : decode prog_8_method_31_code 186 = .ok (.aload_n 0, 1) := by decide +kernel
theorem d_M_deriveRow_187 : decode prog_8_method_31_code 187 = .ok (.sipush 5416, 3) := by decide +kernel
theorem d_M_deriveRow_190 : decode prog_8_method_31_code 190 = .ok (.invokevirtual 142, 3) := by decide +kernel
theorem d_M_deriveRow_193 : decode prog_8_method_31_code 193 = .ok (.aload_n 0, 1) := by decide +kernel
theorem d_M_deriveRow_194 : decode prog_8_method_31_code 194 = .ok (.dup, 1) := by decide +kernel
theorem d_M_deriveRow_195 : decode prog_8_method_31_code 195 = .ok (.getfield 71, 3) := by decide +kernel
theorem d_M_deriveRow_198 : decode prog_8_method_31_code 198 = .ok (.iconst 1, 1) := by decide +kernel
theorem d_M_deriveRow_199 : decode prog_8_method_31_code 199 = .ok (.iadd, 1) := by decide +kernel
theorem d_M_deriveRow_200 : decode prog_8_method_31_code 200 = .ok (.putfield 71, 3) := by decide +kernel
end
section
theorem d_M_deriveRow_203 : decode prog_8_method_31_code 203 = .ok (.return_, 1) := by decide +kernel
theorem d_M_begin_0 : decode prog_8_method_30_code 0 = .ok (.aload_n 0, 1) := by decide +kernel
theorem d_M_begin_1 : decode prog_8_method_30_code 1 = .ok (.getfield 21, 3) := by decide +kernel
theorem d_M_begin_4 : decode prog_8_method_30_code 4 = .ok (.aload_n 0, 1) := by decide +kernel
theorem d_M_begin_5 : decode prog_8_method_30_code 5 = .ok (.getfield 71, 3) := by decide +kernel
theorem d_M_begin_8 : decode prog_8_method_30_code 8 = .ok (.iconst 0, 1) := by decide +kernel
theorem d_M_begin_9 : decode prog_8_method_30_code 9 = .ok (.iastore, 1) := by decide +kernel
theorem d_M_begin_10 : decode prog_8_method_30_code 10 = .ok (.aload_n 0, 1) := by decide +kernel
theorem d_M_begin_11 : decode prog_8_method_30_code 11 = .ok (.getfield 24, 3) := by decide +kernel
theorem d_M_begin_14 : decode prog_8_method_30_code 14 = .ok (.aload_n 0, 1) := by decide +kernel
theorem d_M_begin_15 : decode prog_8_method_30_code 15 = .ok (.getfield 71, 3) := by decide +kernel
theorem d_M_begin_18 : decode prog_8_method_30_code 18 = .ok (.iconst (-1), 1) := by decide +kernel
theorem d_M_begin_19 : decode prog_8_method_30_code 19 = .ok (.iastore, 1) := by decide +kernel
theorem d_M_begin_20 : decode prog_8_method_30_code 20 = .ok (.return_, 1) := by decide +kernel
theorem d_M_has_0 : decode prog_8_method_27_code 0 = .ok (.iconst 0, 1) := by decide +kernel
theorem d_M_has_1 : decode prog_8_method_27_code 1 = .ok (.istore_n 3, 1) := by decide +kernel
theorem d_M_has_2 : decode prog_8_method_27_code 2 = .ok (.iconst 0, 1) := by decide +kernel
theorem d_M_has_3 : decode prog_8_method_27_code 3 = .ok (.istore 4, 2) := by decide +kernel
theorem d_M_has_5 : decode prog_8_method_27_code 5 = .ok (.iload 4, 2) := by decide +kernel
theorem d_M_has_7 : decode prog_8_method_27_code 7 = .ok (.aload_n 0, 1) := by decide +kernel
theorem d_M_has_8 : decode prog_8_method_27_code 8 = .ok (.getfield 118, 3) := by decide +kernel
theorem d_M_has_11 : decode prog_8_method_27_code 11 = .ok (.if_icmp .ge 30, 3) := by decide +kernel
theorem d_M_has_14 : decode prog_8_method_27_code 14 = .ok (.iload_n 3, 1) := by decide +kernel
theorem d_M_has_15 : decode prog_8_method_27_code 15 = .ok (.ifCond .ne 14, 3) := by decide +kernel
theorem d_M_has_18 : decode prog_8_method_27_code 18 = .ok (.aload_n 0, 1) := by decide +kernel
theorem d_M_has_19 : decode prog_8_method_27_code 19 = .ok (.iload 4, 2) := by decide +kernel
theorem d_M_has_21 : decode prog_8_method_27_code 21 = .ok (.iload_n 1, 1) := by decide +kernel
theorem d_M_has_22 : decode prog_8_method_27_code 22 = .ok (.iload_n 2, 1) := by decide +kernel
theorem d_M_has_23 : decode prog_8_method_27_code 23 = .ok (.invokevirtual 125, 3) := by decide +kernel
theorem d_M_has_26 : decode prog_8_method_27_code 26 = .ok (.ifCond .eq 7, 3) := by decide +kernel
theorem d_M_has_29 : decode prog_8_method_27_code 29 = .ok (.iconst 1, 1) := by decide +kernel
theorem d_M_has_30 : decode prog_8_method_27_code 30 = .ok (.goto 4, 3) := by decide +kernel
theorem d_M_has_33 : decode prog_8_method_27_code 33 = .ok (.iconst 0, 1) := by decide +kernel
theorem d_M_has_34 : decode prog_8_method_27_code 34 = .ok (.istore_n 3, 1) := by decide +kernel
theorem d_M_has_35 : decode prog_8_method_27_code 35 = .ok (.iinc 4 1, 3) := by decide +kernel
theorem d_M_has_38 : decode prog_8_method_27_code 38 = .ok (.goto (-33), 3) := by decide +kernel
theorem d_M_has_41 : decode prog_8_method_27_code 41 = .ok (.iload_n 3, 1) := by decide +kernel
theorem d_M_has_42 : decode prog_8_method_27_code 42 = .ok (.ireturn, 1) := by decide +kernel
theorem d_M_isAlike_0 : decode prog_8_method_26_code 0 = .ok (.aload_n 0, 1) := by decide +kernel
theorem d_M_isAlike_1 : decode prog_8_method_26_code 1 = .ok (.getfield 43, 3) := by decide +kernel
theorem d_M_isAlike_4 : decode prog_8_method_26_code 4 = .ok (.iload_n 1, 1) := by decide +kernel
theorem d_M_isAlike_5 : decode prog_8_method_26_code 5 = .ok (.iaload, 1) := by decide +kernel
theorem d_M_isAlike_6 : decode prog_8_method_26_code 6 = .ok (.aload_n 0, 1) := by decide +kernel
theorem d_M_isAlike_7 : decode prog_8_method_26_code 7 = .ok (.getfield 43, 3) := by decide +kernel
theorem d_M_isAlike_10 : decode prog_8_method_26_code 10 = .ok (.iload_n 3, 1) := by decide +kernel
theorem d_M_isAlike_11 : decode prog_8_method_26_code 11 = .ok (.iaload, 1) := by decide +kernel
theorem d_M_isAlike_12 : decode prog_8_method_26_code 12 = .ok (.if_icmp .ne 63, 3) := by decide +kernel
theorem d_M_isAlike_15 : decode prog_8_method_26_code 15 = .ok (.aload_n 0, 1) := by decide +kernel
theorem d_M_isAlike_16 : decode prog_8_method_26_code 16 = .ok (.getfield 46, 3) := by decide +kernel
theorem d_M_isAlike_19 : decode prog_8_method_26_code 19 = .ok (.iload_n 1, 1) := by decide +kernel
theorem d_M_isAlike_20 : decode prog_8_method_26_code 20 = .ok (.iaload, 1) := by decide +kernel
theorem d_M_isAlike_21 : decode prog_8_method_26_code 21 = .ok (.iload_n 2, 1) := by decide +kernel
theorem d_M_isAlike_22 : decode prog_8_method_26_code 22 = .ok (.if_icmp .ne 53, 3) := by decide +kernel
theorem d_M_isAlike_25 : decode prog_8_method_26_code 25 = .ok (.aload_n 0, 1) := by decide +kernel
theorem d_M_isAlike_26 : decode prog_8_method_26_code 26 = .ok (.getfield 49, 3) := by decide +kernel
theorem d_M_isAlike_29 : decode prog_8_method_26_code 29 = .ok (.iload_n 1, 1) := by decide +kernel
theorem d_M_isAlike_30 : decode prog_8_method_26_code 30 = .ok (.iaload, 1) := by decide +kernel
theorem d_M_isAlike_31 : decode prog_8_method_26_code 31 = .ok (.aload_n 0, 1) := by decide +kernel
theorem d_M_isAlike_32 : decode prog_8_method_26_code 32 = .ok (.getfield 49, 3) := by decide +kernel
theorem d_M_isAlike_35 : decode prog_8_method_26_code 35 = .ok (.iload_n 3, 1) := by decide +kernel
theorem d_M_isAlike_36 : decode prog_8_method_26_code 36 = .ok (.iaload, 1) := by decide +kernel
theorem d_M_isAlike_37 : decode prog_8_method_26_code 37 = .ok (.if_icmp .ne 38, 3) := by decide +kernel
theorem d_M_isAlike_40 : decode prog_8_method_26_code 40 = .ok (.aload_n 0, 1) := by decide +kernel
theorem d_M_isAlike_41 : decode prog_8_method_26_code 41 = .ok (.getfield 55, 3) := by decide +kernel
theorem d_M_isAlike_44 : decode prog_8_method_26_code 44 = .ok (.iload_n 1, 1) := by decide +kernel
theorem d_M_isAlike_45 : decode prog_8_method_26_code 45 = .ok (.laload, 1) := by decide +kernel
theorem d_M_isAlike_46 : decode prog_8_method_26_code 46 = .ok (.aload_n 0, 1) := by decide +kernel
theorem d_M_isAlike_47 : decode prog_8_method_26_code 47 = .ok (.getfield 55, 3) := by decide +kernel
theorem d_M_isAlike_50 : decode prog_8_method_26_code 50 = .ok (.iload_n 3, 1) := by decide +kernel
theorem d_M_isAlike_51 : decode prog_8_method_26_code 51 = .ok (.laload, 1) := by decide +kernel
theorem d_M_isAlike_52 : decode prog_8_method_26_code 52 = .ok (.lcmp, 1) := by decide +kernel
theorem d_M_isAlike_53 : decode prog_8_method_26_code 53 = .ok (.ifCond .ne 22, 3) := by decide +kernel
theorem d_M_isAlike_56 : decode prog_8_method_26_code 56 = .ok (.aload_n 0, 1) := by decide +kernel
theorem d_M_isAlike_57 : decode prog_8_method_26_code 57 = .ok (.getfield 52, 3) := by decide +kernel
theorem d_M_isAlike_60 : decode prog_8_method_26_code 60 = .ok (.iload_n 1, 1) := by decide +kernel
theorem d_M_isAlike_61 : decode prog_8_method_26_code 61 = .ok (.iaload, 1) := by decide +kernel
theorem d_M_isAlike_62 : decode prog_8_method_26_code 62 = .ok (.aload_n 0, 1) := by decide +kernel
theorem d_M_isAlike_63 : decode prog_8_method_26_code 63 = .ok (.getfield 52, 3) := by decide +kernel
theorem d_M_isAlike_66 : decode prog_8_method_26_code 66 = .ok (.iload_n 3, 1) := by decide +kernel
theorem d_M_isAlike_67 : decode prog_8_method_26_code 67 = .ok (.iaload, 1) := by decide +kernel
theorem d_M_isAlike_68 : decode prog_8_method_26_code 68 = .ok (.if_icmp .ne 7, 3) := by decide +kernel
theorem d_M_isAlike_71 : decode prog_8_method_26_code 71 = .ok (.iconst 1, 1) := by decide +kernel
theorem d_M_isAlike_72 : decode prog_8_method_26_code 72 = .ok (.goto 4, 3) := by decide +kernel
theorem d_M_isAlike_75 : decode prog_8_method_26_code 75 = .ok (.iconst 0, 1) := by decide +kernel
theorem d_M_isAlike_76 : decode prog_8_method_26_code 76 = .ok (.ireturn, 1) := by decide +kernel
theorem d_M_addPart_0 : decode prog_8_method_29_code 0 = .ok (.aload_n 0, 1) := by decide +kernel
theorem d_M_addPart_1 : decode prog_8_method_29_code 1 = .ok (.iload_n 1, 1) := by decide +kernel
theorem d_M_addPart_2 : decode prog_8_method_29_code 2 = .ok (.invokevirtual 129, 3) := by decide +kernel
theorem d_M_addPart_5 : decode prog_8_method_29_code 5 = .ok (.ifCond .eq 4, 3) := by decide +kernel
theorem d_M_addPart_8 : decode prog_8_method_29_code 8 = .ok (.return_, 1) := by decide +kernel
theorem d_M_addPart_9 : decode prog_8_method_29_code 9 = .ok (.aload_n 0, 1) := by decide +kernel
theorem d_M_addPart_10 : decode prog_8_method_29_code 10 = .ok (.getfield 21, 3) := by decide +kernel
theorem d_M_addPart_13 : decode prog_8_method_29_code 13 = .ok (.aload_n 0, 1) := by decide +kernel
theorem d_M_addPart_14 : decode prog_8_method_29_code 14 = .ok (.getfield 71, 3) := by decide +kernel
theorem d_M_addPart_17 : decode prog_8_method_29_code 17 = .ok (.iaload, 1) := by decide +kernel
theorem d_M_addPart_18 : decode prog_8_method_29_code 18 = .ok (.istore_n 2, 1) := by decide +kernel
theorem d_M_addPart_19 : decode prog_8_method_29_code 19 = .ok (.iload_n 2, 1) := by decide +kernel
theorem d_M_addPart_20 : decode prog_8_method_29_code 20 = .ok (.ifCond .le 70, 3) := by decide +kernel
theorem d_M_addPart_23 : decode prog_8_method_29_code 23 = .ok (.aload_n 0, 1) := by decide +kernel
theorem d_M_addPart_24 : decode prog_8_method_29_code 24 = .ok (.getfield 13, 3) := by decide +kernel
theorem d_M_addPart_27 : decode prog_8_method_29_code 27 = .ok (.sipush 600, 3) := by decide +kernel
theorem d_M_addPart_30 : decode prog_8_method_29_code 30 = .ok (.bipush 16, 2) := by decide +kernel
theorem d_M_addPart_32 : decode prog_8_method_29_code 32 = .ok (.aload_n 0, 1) := by decide +kernel
theorem d_M_addPart_33 : decode prog_8_method_29_code 33 = .ok (.getfield 71, 3) := by decide +kernel
theorem d_M_addPart_36 : decode prog_8_method_29_code 36 = .ok (.imul, 1) := by decide +kernel
theorem d_M_addPart_37 : decode prog_8_method_29_code 37 = .ok (.iadd, 1) := by decide +kernel
theorem d_M_addPart_38 : decode prog_8_method_29_code 38 = .ok (.iload_n 2, 1) := by decide +kernel
theorem d_M_addPart_39 : decode prog_8_method_29_code 39 = .ok (.iadd, 1) := by decide +kernel
theorem d_M_addPart_40 : decode prog_8_method_29_code 40 = .ok (.iconst 1, 1) := by decide +kernel
theorem d_M_addPart_41 : decode prog_8_method_29_code 41 = .ok (.isub, 1) := by decide +kernel
theorem d_M_addPart_42 : decode prog_8_method_29_code 42 = .ok (.iaload, 1) := by decide +kernel
theorem d_M_addPart_43 : decode prog_8_method_29_code 43 = .ok (.aload_n 0, 1) := by decide +kernel
theorem d_M_addPart_44 : decode prog_8_method_29_code 44 = .ok (.getfield 13, 3) := by decide +kernel
theorem d_M_addPart_47 : decode prog_8_method_29_code 47 = .ok (.iload_n 1, 1) := by decide +kernel
theorem d_M_addPart_48 : decode prog_8_method_29_code 48 = .ok (.iaload, 1) := by decide +kernel
theorem d_M_addPart_49 : decode prog_8_method_29_code 49 = .ok (.if_icmp .le 41, 3) := by decide +kernel
theorem d_M_addPart_52 : decode prog_8_method_29_code 52 = .ok (.aload_n 0, 1) := by decide +kernel
theorem d_M_addPart_53 : decode prog_8_method_29_code 53 = .ok (.sipush 600, 3) := by decide +kernel
theorem d_M_addPart_56 : decode prog_8_method_29_code 56 = .ok (.bipush 16, 2) := by decide +kernel
theorem d_M_addPart_58 : decode prog_8_method_29_code 58 = .ok (.aload_n 0, 1) := by decide +kernel
theorem d_M_addPart_59 : decode prog_8_method_29_code 59 = .ok (.getfield 71, 3) := by decide +kernel
theorem d_M_addPart_62 : decode prog_8_method_29_code 62 = .ok (.imul, 1) := by decide +kernel
theorem d_M_addPart_63 : decode prog_8_method_29_code 63 = .ok (.iadd, 1) := by decide +kernel
theorem d_M_addPart_64 : decode prog_8_method_29_code 64 = .ok (.iload_n 2, 1) := by decide +kernel
theorem d_M_addPart_65 : decode prog_8_method_29_code 65 = .ok (.iadd, 1) := by decide +kernel
theorem d_M_addPart_66 : decode prog_8_method_29_code 66 = .ok (.sipush 600, 3) := by decide +kernel
theorem d_M_addPart_69 : decode prog_8_method_29_code 69 = .ok (.bipush 16, 2) := by decide +kernel
theorem d_M_addPart_71 : decode prog_8_method_29_code 71 = .ok (.aload_n 0, 1) := by decide +kernel
theorem d_M_addPart_72 : decode prog_8_method_29_code 72 = .ok (.getfield 71, 3) := by decide +kernel
theorem d_M_addPart_75 : decode prog_8_method_29_code 75 = .ok (.imul, 1) := by decide +kernel
theorem d_M_addPart_76 : decode prog_8_method_29_code 76 = .ok (.iadd, 1) := by decide +kernel
theorem d_M_addPart_77 : decode prog_8_method_29_code 77 = .ok (.iload_n 2, 1) := by decide +kernel
theorem d_M_addPart_78 : decode prog_8_method_29_code 78 = .ok (.iadd, 1) := by decide +kernel
theorem d_M_addPart_79 : decode prog_8_method_29_code 79 = .ok (.iconst 1, 1) := by decide +kernel
theorem d_M_addPart_80 : decode prog_8_method_29_code 80 = .ok (.isub, 1) := by decide +kernel
theorem d_M_addPart_81 : decode prog_8_method_29_code 81 = .ok (.invokevirtual 132, 3) := by decide +kernel
theorem d_M_addPart_84 : decode prog_8_method_29_code 84 = .ok (.iinc 2 (-1), 3) := by decide +kernel
theorem d_M_addPart_87 : decode prog_8_method_29_code 87 = .ok (.goto (-68), 3) := by decide +kernel
theorem d_M_addPart_90 : decode prog_8_method_29_code 90 = .ok (.aload_n 0, 1) := by decide +kernel
theorem d_M_addPart_91 : decode prog_8_method_29_code 91 = .ok (.sipush 600, 3) := by decide +kernel
theorem d_M_addPart_94 : decode prog_8_method_29_code 94 = .ok (.bipush 16, 2) := by decide +kernel
theorem d_M_addPart_96 : decode prog_8_method_29_code 96 = .ok (.aload_n 0, 1) := by decide +kernel
theorem d_M_addPart_97 : decode prog_8_method_29_code 97 = .ok (.getfield 71, 3) := by decide +kernel
theorem d_M_addPart_100 : decode prog_8_method_29_code 100 = .ok (.imul, 1) := by decide +kernel
theorem d_M_addPart_101 : decode prog_8_method_29_code 101 = .ok (.iadd, 1) := by decide +kernel
theorem d_M_addPart_102 : decode prog_8_method_29_code 102 = .ok (.iload_n 2, 1) := by decide +kernel
theorem d_M_addPart_103 : decode prog_8_method_29_code 103 = .ok (.iadd, 1) := by decide +kernel
theorem d_M_addPart_104 : decode prog_8_method_29_code 104 = .ok (.iload_n 1, 1) := by decide +kernel
theorem d_M_addPart_105 : decode prog_8_method_29_code 105 = .ok (.invokevirtual 132, 3) := by decide +kernel
theorem d_M_addPart_108 : decode prog_8_method_29_code 108 = .ok (.aload_n 0, 1) := by decide +kernel
theorem d_M_addPart_109 : decode prog_8_method_29_code 109 = .ok (.getfield 21, 3) := by decide +kernel
theorem d_M_addPart_112 : decode prog_8_method_29_code 112 = .ok (.aload_n 0, 1) := by decide +kernel
theorem d_M_addPart_113 : decode prog_8_method_29_code 113 = .ok (.getfield 71, 3) := by decide +kernel
theorem d_M_addPart_116 : decode prog_8_method_29_code 116 = .ok (.dup2, 1) := by decide +kernel
theorem d_M_addPart_117 : decode prog_8_method_29_code 117 = .ok (.iaload, 1) := by decide +kernel
theorem d_M_addPart_118 : decode prog_8_method_29_code 118 = .ok (.iconst 1, 1) := by decide +kernel
theorem d_M_addPart_119 : decode prog_8_method_29_code 119 = .ok (.iadd, 1) := by decide +kernel
theorem d_M_addPart_120 : decode prog_8_method_29_code 120 = .ok (.iastore, 1) := by decide +kernel
theorem d_M_addPart_121 : decode prog_8_method_29_code 121 = .ok (.return_, 1) := by decide +kernel
theorem d_M_isFull_0 : decode prog_8_method_13_code 0 = .ok (.aload_n 0, 1) := by decide +kernel
theorem d_M_isFull_1 : decode prog_8_method_13_code 1 = .ok (.iload_n 1, 1) := by decide +kernel
theorem d_M_isFull_2 : decode prog_8_method_13_code 2 = .ok (.iconst (-1), 1) := by decide +kernel
theorem d_M_isFull_3 : decode prog_8_method_13_code 3 = .ok (.invokevirtual 82, 3) := by decide +kernel
theorem d_M_isFull_6 : decode prog_8_method_13_code 6 = .ok (.istore_n 2, 1) := by decide +kernel
theorem d_M_isFull_7 : decode prog_8_method_13_code 7 = .ok (.iconst 0, 1) := by decide +kernel
theorem d_M_isFull_8 : decode prog_8_method_13_code 8 = .ok (.istore_n 3, 1) := by decide +kernel
theorem d_M_isFull_9 : decode prog_8_method_13_code 9 = .ok (.iload_n 3, 1) := by decide +kernel
theorem d_M_isFull_10 : decode prog_8_method_13_code 10 = .ok (.aload_n 0, 1) := by decide +kernel
theorem d_M_isFull_11 : decode prog_8_method_13_code 11 = .ok (.getfield 7, 3) := by decide +kernel
theorem d_M_isFull_14 : decode prog_8_method_13_code 14 = .ok (.aload_n 0, 1) := by decide +kernel
theorem d_M_isFull_15 : decode prog_8_method_13_code 15 = .ok (.getfield 13, 3) := by decide +kernel
theorem d_M_isFull_18 : decode prog_8_method_13_code 18 = .ok (.iload_n 1, 1) := by decide +kernel
theorem d_M_isFull_19 : decode prog_8_method_13_code 19 = .ok (.iaload, 1) := by decide +kernel
theorem d_M_isFull_20 : decode prog_8_method_13_code 20 = .ok (.iaload, 1) := by decide +kernel
theorem d_M_isFull_21 : decode prog_8_method_13_code 21 = .ok (.if_icmp .ge 28, 3) := by decide +kernel
theorem d_M_isFull_24 : decode prog_8_method_13_code 24 = .ok (.iload_n 2, 1) := by decide +kernel
theorem d_M_isFull_25 : decode prog_8_method_13_code 25 = .ok (.ifCond .eq 16, 3) := by decide +kernel
theorem d_M_isFull_28 : decode prog_8_method_13_code 28 = .ok (.aload_n 0, 1) := by decide +kernel
theorem d_M_isFull_29 : decode prog_8_method_13_code 29 = .ok (.iload_n 1, 1) := by decide +kernel
theorem d_M_isFull_30 : decode prog_8_method_13_code 30 = .ok (.iload_n 3, 1) := by decide +kernel
theorem d_M_isFull_31 : decode prog_8_method_13_code 31 = .ok (.invokevirtual 82, 3) := by decide +kernel
theorem d_M_isFull_34 : decode prog_8_method_13_code 34 = .ok (.ifCond .eq 7, 3) := by decide +kernel
theorem d_M_isFull_37 : decode prog_8_method_13_code 37 = .ok (.iconst 1, 1) := by decide +kernel
theorem d_M_isFull_38 : decode prog_8_method_13_code 38 = .ok (.goto 4, 3) := by decide +kernel
theorem d_M_isFull_41 : decode prog_8_method_13_code 41 = .ok (.iconst 0, 1) := by decide +kernel
theorem d_M_isFull_42 : decode prog_8_method_13_code 42 = .ok (.istore_n 2, 1) := by decide +kernel
theorem d_M_isFull_43 : decode prog_8_method_13_code 43 = .ok (.iinc 3 1, 3) := by decide +kernel
theorem d_M_isFull_46 : decode prog_8_method_13_code 46 = .ok (.goto (-37), 3) := by decide +kernel
theorem d_M_isFull_49 : decode prog_8_method_13_code 49 = .ok (.iload_n 2, 1) := by decide +kernel
theorem d_M_isFull_50 : decode prog_8_method_13_code 50 = .ok (.ireturn, 1) := by decide +kernel
theorem d_M_copy_0 : decode prog_8_method_11_code 0 = .ok (.aload_n 0, 1) := by decide +kernel
theorem d_M_copy_1 : decode prog_8_method_11_code 1 = .ok (.getfield 13, 3) := by decide +kernel
theorem d_M_copy_4 : decode prog_8_method_11_code 4 = .ok (.iload_n 1, 1) := by decide +kernel
theorem d_M_copy_5 : decode prog_8_method_11_code 5 = .ok (.aload_n 0, 1) := by decide +kernel
theorem d_M_copy_6 : decode prog_8_method_11_code 6 = .ok (.getfield 13, 3) := by decide +kernel
theorem d_M_copy_9 : decode prog_8_method_11_code 9 = .ok (.iload_n 2, 1) := by decide +kernel
theorem d_M_copy_10 : decode prog_8_method_11_code 10 = .ok (.iaload, 1) := by decide +kernel
theorem d_M_copy_11 : decode prog_8_method_11_code 11 = .ok (.iastore, 1) := by decide +kernel
theorem d_M_copy_12 : decode prog_8_method_11_code 12 = .ok (.iconst (-1), 1) := by decide +kernel
theorem d_M_copy_13 : decode prog_8_method_11_code 13 = .ok (.istore_n 3, 1) := by decide +kernel
theorem d_M_copy_14 : decode prog_8_method_11_code 14 = .ok (.iload_n 3, 1) := by decide +kernel
theorem d_M_copy_15 : decode prog_8_method_11_code 15 = .ok (.bipush 48, 2) := by decide +kernel
theorem d_M_copy_17 : decode prog_8_method_11_code 17 = .ok (.if_icmp .ge 21, 3) := by decide +kernel
theorem d_M_copy_20 : decode prog_8_method_11_code 20 = .ok (.aload_n 0, 1) := by decide +kernel
theorem d_M_copy_21 : decode prog_8_method_11_code 21 = .ok (.iload_n 1, 1) := by decide +kernel
theorem d_M_copy_22 : decode prog_8_method_11_code 22 = .ok (.iload_n 3, 1) := by decide +kernel
theorem d_M_copy_23 : decode prog_8_method_11_code 23 = .ok (.aload_n 0, 1) := by decide +kernel
theorem d_M_copy_24 : decode prog_8_method_11_code 24 = .ok (.iload_n 2, 1) := by decide +kernel
theorem d_M_copy_25 : decode prog_8_method_11_code 25 = .ok (.iload_n 3, 1) := by decide +kernel
theorem d_M_copy_26 : decode prog_8_method_11_code 26 = .ok (.invokevirtual 82, 3) := by decide +kernel
theorem d_M_copy_29 : decode prog_8_method_11_code 29 = .ok (.invokevirtual 78, 3) := by decide +kernel
theorem d_M_copy_32 : decode prog_8_method_11_code 32 = .ok (.iinc 3 1, 3) := by decide +kernel
theorem d_M_copy_35 : decode prog_8_method_11_code 35 = .ok (.goto (-21), 3) := by decide +kernel
theorem d_M_copy_38 : decode prog_8_method_11_code 38 = .ok (.return_, 1) := by decide +kernel
theorem d_M_bar_0 : decode prog_8_method_33_code 0 = .ok (.aload_n 0, 1) := by decide +kernel
theorem d_M_bar_1 : decode prog_8_method_33_code 1 = .ok (.iconst 0, 1) := by decide +kernel
theorem d_M_bar_2 : decode prog_8_method_33_code 2 = .ok (.putfield 61, 3) := by decide +kernel
theorem d_M_bar_5 : decode prog_8_method_33_code 5 = .ok (.aload_n 0, 1) := by decide +kernel
theorem d_M_bar_6 : decode prog_8_method_33_code 6 = .ok (.iload_n 1, 1) := by decide +kernel
theorem d_M_bar_7 : decode prog_8_method_33_code 7 = .ok (.invokevirtual 93, 3) := by decide +kernel
theorem d_M_bar_10 : decode prog_8_method_33_code 10 = .ok (.ifCond .eq 13, 3) := by decide +kernel
theorem d_M_bar_13 : decode prog_8_method_33_code 13 = .ok (.aload_n 0, 1) := by decide +kernel
theorem d_M_bar_14 : decode prog_8_method_33_code 14 = .ok (.getfield 71, 3) := by decide +kernel
theorem d_M_bar_17 : decode prog_8_method_33_code 17 = .ok (.sipush 300, 3) := by decide +kernel
theorem d_M_bar_20 : decode prog_8_method_33_code 20 = .ok (.if_icmp .ne 5, 3) := by decide +kernel
theorem d_M_bar_23 : decode prog_8_method_33_code 23 = .ok (.iconst (-1), 1) := by decide +kernel
theorem d_M_bar_24 : decode prog_8_method_33_code 24 = .ok (.ireturn, 1) := by decide +kernel
theorem d_M_bar_25 : decode prog_8_method_33_code 25 = .ok (.aload_n 0, 1) := by decide +kernel
theorem d_M_bar_26 : decode prog_8_method_33_code 26 = .ok (.invokevirtual 136, 3) := by decide +kernel
theorem d_M_bar_29 : decode prog_8_method_33_code 29 = .ok (.aload_n 0, 1) := by decide +kernel
theorem d_M_bar_30 : decode prog_8_method_33_code 30 = .ok (.sipush 5416, 3) := by decide +kernel
theorem d_M_bar_33 : decode prog_8_method_33_code 33 = .ok (.iload_n 1, 1) := by decide +kernel
theorem d_M_bar_34 : decode prog_8_method_33_code 34 = .ok (.lload_n 2, 1) := by decide +kernel
theorem d_M_bar_35 : decode prog_8_method_33_code 35 = .ok (.iload 4, 2) := by decide +kernel
theorem d_M_bar_37 : decode prog_8_method_33_code 37 = .ok (.ifCond .ne 7, 3) := by decide +kernel
theorem d_M_bar_40 : decode prog_8_method_33_code 40 = .ok (.iconst 1, 1) := by decide +kernel
theorem d_M_bar_41 : decode prog_8_method_33_code 41 = .ok (.goto 4, 3) := by decide +kernel
theorem d_M_bar_44 : decode prog_8_method_33_code 44 = .ok (.iconst 0, 1) := by decide +kernel
theorem d_M_bar_45 : decode prog_8_method_33_code 45 = .ok (.invokevirtual 96, 3) := by decide +kernel
theorem d_M_bar_48 : decode prog_8_method_33_code 48 = .ok (.aload_n 0, 1) := by decide +kernel
theorem d_M_bar_49 : decode prog_8_method_33_code 49 = .ok (.sipush 5416, 3) := by decide +kernel
theorem d_M_bar_52 : decode prog_8_method_33_code 52 = .ok (.invokevirtual 142, 3) := by decide +kernel
theorem d_M_bar_55 : decode prog_8_method_33_code 55 = .ok (.aload_n 0, 1) := by decide +kernel
theorem d_M_bar_56 : decode prog_8_method_33_code 56 = .ok (.dup, 1) := by decide +kernel
theorem d_M_bar_57 : decode prog_8_method_33_code 57 = .ok (.getfield 71, 3) := by decide +kernel
theorem d_M_bar_60 : decode prog_8_method_33_code 60 = .ok (.iconst 1, 1) := by decide +kernel
theorem d_M_bar_61 : decode prog_8_method_33_code 61 = .ok (.iadd, 1) := by decide +kernel
theorem d_M_bar_62 : decode prog_8_method_33_code 62 = .ok (.putfield 71, 3) := by decide +kernel
theorem d_M_bar_65 : decode prog_8_method_33_code 65 = .ok (.aload_n 0, 1) := by decide +kernel
theorem d_M_bar_66 : decode prog_8_method_33_code 66 = .ok (.getfield 71, 3) := by decide +kernel
theorem d_M_bar_69 : decode prog_8_method_33_code 69 = .ok (.iconst 1, 1) := by decide +kernel
theorem d_M_bar_70 : decode prog_8_method_33_code 70 = .ok (.isub, 1) := by decide +kernel
theorem d_M_bar_71 : decode prog_8_method_33_code 71 = .ok (.ireturn, 1) := by decide +kernel
theorem d_M_learn_0 : decode prog_8_method_35_code 0 = .ok (.aload_n 0, 1) := by decide +kernel
theorem d_M_learn_1 : decode prog_8_method_35_code 1 = .ok (.iconst 0, 1) := by decide +kernel
theorem d_M_learn_2 : decode prog_8_method_35_code 2 = .ok (.putfield 61, 3) := by decide +kernel
theorem d_M_learn_5 : decode prog_8_method_35_code 5 = .ok (.aload_n 0, 1) := by decide +kernel
theorem d_M_learn_6 : decode prog_8_method_35_code 6 = .ok (.iload_n 1, 1) := by decide +kernel
theorem d_M_learn_7 : decode prog_8_method_35_code 7 = .ok (.invokevirtual 151, 3) := by decide +kernel
theorem d_M_learn_10 : decode prog_8_method_35_code 10 = .ok (.ifCond .eq 41, 3) := by decide +kernel
theorem d_M_learn_13 : decode prog_8_method_35_code 13 = .ok (.aload_n 0, 1) := by decide +kernel
theorem d_M_learn_14 : decode prog_8_method_35_code 14 = .ok (.iload_n 2, 1) := by decide +kernel
theorem d_M_learn_15 : decode prog_8_method_35_code 15 = .ok (.invokevirtual 151, 3) := by decide +kernel
theorem d_M_learn_18 : decode prog_8_method_35_code 18 = .ok (.ifCond .eq 33, 3) := by decide +kernel
theorem d_M_learn_21 : decode prog_8_method_35_code 21 = .ok (.aload_n 0, 1) := by decide +kernel
theorem d_M_learn_22 : decode prog_8_method_35_code 22 = .ok (.getfield 71, 3) := by decide +kernel
theorem d_M_learn_25 : decode prog_8_method_35_code 25 = .ok (.sipush 300, 3) := by decide +kernel
theorem d_M_learn_28 : decode prog_8_method_35_code 28 = .ok (.if_icmp .eq 23, 3) := by decide +kernel
theorem d_M_learn_31 : decode prog_8_method_35_code 31 = .ok (.aload_n 0, 1) := by decide +kernel
theorem d_M_learn_32 : decode prog_8_method_35_code 32 = .ok (.iload_n 1, 1) := by decide +kernel
theorem d_M_learn_33 : decode prog_8_method_35_code 33 = .ok (.iload_n 3, 1) := by decide +kernel
theorem d_M_learn_34 : decode prog_8_method_35_code 34 = .ok (.invokevirtual 154, 3) := by decide +kernel
theorem d_M_learn_37 : decode prog_8_method_35_code 37 = .ok (.iconst (-1), 1) := by decide +kernel
theorem d_M_learn_38 : decode prog_8_method_35_code 38 = .ok (.if_icmp .eq 13, 3) := by decide +kernel
theorem d_M_learn_41 : decode prog_8_method_35_code 41 = .ok (.aload_n 0, 1) := by decide +kernel
theorem d_M_learn_42 : decode prog_8_method_35_code 42 = .ok (.iload_n 2, 1) := by decide +kernel
theorem d_M_learn_43 : decode prog_8_method_35_code 43 = .ok (.iload_n 3, 1) := by decide +kernel
theorem d_M_learn_44 : decode prog_8_method_35_code 44 = .ok (.invokevirtual 154, 3) := by decide +kernel
theorem d_M_learn_47 : decode prog_8_method_35_code 47 = .ok (.iconst (-1), 1) := by decide +kernel
theorem d_M_learn_48 : decode prog_8_method_35_code 48 = .ok (.if_icmp .ne 5, 3) := by decide +kernel
theorem d_M_learn_51 : decode prog_8_method_35_code 51 = .ok (.iconst (-1), 1) := by decide +kernel
theorem d_M_learn_52 : decode prog_8_method_35_code 52 = .ok (.ireturn, 1) := by decide +kernel
theorem d_M_learn_53 : decode prog_8_method_35_code 53 = .ok (.aload_n 0, 1) := by decide +kernel
theorem d_M_learn_54 : decode prog_8_method_35_code 54 = .ok (.invokevirtual 136, 3) := by decide +kernel
theorem d_M_learn_57 : decode prog_8_method_35_code 57 = .ok (.iconst 0, 1) := by decide +kernel
theorem d_M_learn_58 : decode prog_8_method_35_code 58 = .ok (.istore 4, 2) := by decide +kernel
theorem d_M_learn_60 : decode prog_8_method_35_code 60 = .ok (.iload 4, 2) := by decide +kernel
theorem d_M_learn_62 : decode prog_8_method_35_code 62 = .ok (.aload_n 0, 1) := by decide +kernel
theorem d_M_learn_63 : decode prog_8_method_35_code 63 = .ok (.getfield 65, 3) := by decide +kernel
theorem d_M_learn_66 : decode prog_8_method_35_code 66 = .ok (.if_icmp .ge 93, 3) := by decide +kernel
theorem d_M_learn_69 : decode prog_8_method_35_code 69 = .ok (.aload_n 0, 1) := by decide +kernel
theorem d_M_learn_70 : decode prog_8_method_35_code 70 = .ok (.iload_n 1, 1) := by decide +kernel
theorem d_M_learn_71 : decode prog_8_method_35_code 71 = .ok (.iload 4, 2) := by decide +kernel
theorem d_M_learn_73 : decode prog_8_method_35_code 73 = .ok (.invokevirtual 154, 3) := by decide +kernel
theorem d_M_learn_76 : decode prog_8_method_35_code 76 = .ok (.istore 5, 2) := by decide +kernel
theorem d_M_learn_78 : decode prog_8_method_35_code 78 = .ok (.aload_n 0, 1) := by decide +kernel
theorem d_M_learn_79 : decode prog_8_method_35_code 79 = .ok (.iload_n 2, 1) := by decide +kernel
theorem d_M_learn_80 : decode prog_8_method_35_code 80 = .ok (.iload 4, 2) := by decide +kernel
theorem d_M_learn_82 : decode prog_8_method_35_code 82 = .ok (.invokevirtual 154, 3) := by decide +kernel
theorem d_M_learn_85 : decode prog_8_method_35_code 85 = .ok (.istore 6, 2) := by decide +kernel
theorem d_M_learn_87 : decode prog_8_method_35_code 87 = .ok (.iload 5, 2) := by decide +kernel
theorem d_M_learn_89 : decode prog_8_method_35_code 89 = .ok (.iconst (-1), 1) := by decide +kernel
theorem d_M_learn_90 : decode prog_8_method_35_code 90 = .ok (.if_icmp .ne 12, 3) := by decide +kernel
theorem d_M_learn_93 : decode prog_8_method_35_code 93 = .ok (.iload 6, 2) := by decide +kernel
theorem d_M_learn_95 : decode prog_8_method_35_code 95 = .ok (.iconst (-1), 1) := by decide +kernel
theorem d_M_learn_96 : decode prog_8_method_35_code 96 = .ok (.if_icmp .ne 6, 3) := by decide +kernel
theorem d_M_learn_99 : decode prog_8_method_35_code 99 = .ok (.goto 54, 3) := by decide +kernel
theorem d_M_learn_102 : decode prog_8_method_35_code 102 = .ok (.aload_n 0, 1) := by decide +kernel
theorem d_M_learn_103 : decode prog_8_method_35_code 103 = .ok (.sipush 5416, 3) := by decide +kernel
theorem d_M_learn_106 : decode prog_8_method_35_code 106 = .ok (.iload 5, 2) := by decide +kernel
theorem d_M_learn_108 : decode prog_8_method_35_code 108 = .ok (.iconst (-1), 1) := by decide +kernel
theorem d_M_learn_109 : decode prog_8_method_35_code 109 = .ok (.if_icmp .ne 8, 3) := by decide +kernel
theorem d_M_learn_112 : decode prog_8_method_35_code 112 = .ok (.iload 6, 2) := by decide +kernel
theorem d_M_learn_114 : decode prog_8_method_35_code 114 = .ok (.goto 5, 3) := by decide +kernel
theorem d_M_learn_117 : decode prog_8_method_35_code 117 = .ok (.iload 5, 2) := by decide +kernel
theorem d_M_learn_119 : decode prog_8_method_35_code 119 = .ok (.iload 6, 2) := by decide +kernel
theorem d_M_learn_121 : decode prog_8_method_35_code 121 = .ok (.iconst (-1), 1) := by decide +kernel
theorem d_M_learn_122 : decode prog_8_method_35_code 122 = .ok (.if_icmp .ne 8, 3) := by decide +kernel
theorem d_M_learn_125 : decode prog_8_method_35_code 125 = .ok (.iload 5, 2) := by decide +kernel
theorem d_M_learn_127 : decode prog_8_method_35_code 127 = .ok (.goto 5, 3) := by decide +kernel
theorem d_M_learn_130 : decode prog_8_method_35_code 130 = .ok (.iload 6, 2) := by decide +kernel
theorem d_M_learn_132 : decode prog_8_method_35_code 132 = .ok (.iload 4, 2) := by decide +kernel
theorem d_M_learn_134 : decode prog_8_method_35_code 134 = .ok (.iload_n 3, 1) := by decide +kernel
theorem d_M_learn_135 : decode prog_8_method_35_code 135 = .ok (.if_icmp .ne 7, 3) := by decide +kernel
theorem d_M_learn_138 : decode prog_8_method_35_code 138 = .ok (.iconst 1, 1) := by decide +kernel
theorem d_M_learn_139 : decode prog_8_method_35_code 139 = .ok (.goto 4, 3) := by decide +kernel
theorem d_M_learn_142 : decode prog_8_method_35_code 142 = .ok (.iconst 0, 1) := by decide +kernel
theorem d_M_learn_143 : decode prog_8_method_35_code 143 = .ok (.invokevirtual 103, 3) := by decide +kernel
theorem d_M_learn_146 : decode prog_8_method_35_code 146 = .ok (.aload_n 0, 1) := by decide +kernel
theorem d_M_learn_147 : decode prog_8_method_35_code 147 = .ok (.sipush 5416, 3) := by decide +kernel
theorem d_M_learn_150 : decode prog_8_method_35_code 150 = .ok (.invokevirtual 142, 3) := by decide +kernel
theorem d_M_learn_153 : decode prog_8_method_35_code 153 = .ok (.iinc 4 1, 3) := by decide +kernel
theorem d_M_learn_156 : decode prog_8_method_35_code 156 = .ok (.goto (-96), 3) := by decide +kernel
theorem d_M_learn_159 : decode prog_8_method_35_code 159 = .ok (.aload_n 0, 1) := by decide +kernel
theorem d_M_learn_160 : decode prog_8_method_35_code 160 = .ok (.dup, 1) := by decide +kernel
theorem d_M_learn_161 : decode prog_8_method_35_code 161 = .ok (.getfield 71, 3) := by decide +kernel
theorem d_M_learn_164 : decode prog_8_method_35_code 164 = .ok (.iconst 1, 1) := by decide +kernel
theorem d_M_learn_165 : decode prog_8_method_35_code 165 = .ok (.iadd, 1) := by decide +kernel
theorem d_M_learn_166 : decode prog_8_method_35_code 166 = .ok (.putfield 71, 3) := by decide +kernel
theorem d_M_learn_169 : decode prog_8_method_35_code 169 = .ok (.aload_n 0, 1) := by decide +kernel
theorem d_M_learn_170 : decode prog_8_method_35_code 170 = .ok (.getfield 71, 3) := by decide +kernel
theorem d_M_learn_173 : decode prog_8_method_35_code 173 = .ok (.iconst 1, 1) := by decide +kernel
theorem d_M_learn_174 : decode prog_8_method_35_code 174 = .ok (.isub, 1) := by decide +kernel
theorem d_M_learn_175 : decode prog_8_method_35_code 175 = .ok (.ireturn, 1) := by decide +kernel
theorem d_M_isBar_0 : decode prog_8_method_5_code 0 = .ok (.iload_n 1, 1) := by decide +kernel
theorem d_M_isBar_1 : decode prog_8_method_5_code 1 = .ok (.ifCond .lt 15, 3) := by decide +kernel
theorem d_M_isBar_4 : decode prog_8_method_5_code 4 = .ok (.iload_n 1, 1) := by decide +kernel
theorem d_M_isBar_5 : decode prog_8_method_5_code 5 = .ok (.aload_n 0, 1) := by decide +kernel
theorem d_M_isBar_6 : decode prog_8_method_5_code 6 = .ok (.getfield 71, 3) := by decide +kernel
theorem d_M_isBar_9 : decode prog_8_method_5_code 9 = .ok (.if_icmp .ge 7, 3) := by decide +kernel
theorem d_M_isBar_12 : decode prog_8_method_5_code 12 = .ok (.iconst 1, 1) := by decide +kernel
theorem d_M_isBar_13 : decode prog_8_method_5_code 13 = .ok (.goto 4, 3) := by decide +kernel
theorem d_M_isBar_16 : decode prog_8_method_5_code 16 = .ok (.iconst 0, 1) := by decide +kernel
theorem d_M_isBar_17 : decode prog_8_method_5_code 17 = .ok (.ireturn, 1) := by decide +kernel
theorem d_M_partOf_0 : decode prog_8_method_34_code 0 = .ok (.iconst (-1), 1) := by decide +kernel
theorem d_M_partOf_1 : decode prog_8_method_34_code 1 = .ok (.istore_n 3, 1) := by decide +kernel
theorem d_M_partOf_2 : decode prog_8_method_34_code 2 = .ok (.iconst 0, 1) := by decide +kernel
theorem d_M_partOf_3 : decode prog_8_method_34_code 3 = .ok (.istore 4, 2) := by decide +kernel
theorem d_M_partOf_5 : decode prog_8_method_34_code 5 = .ok (.iload 4, 2) := by decide +kernel
theorem d_M_partOf_7 : decode prog_8_method_34_code 7 = .ok (.aload_n 0, 1) := by decide +kernel
theorem d_M_partOf_8 : decode prog_8_method_34_code 8 = .ok (.getfield 21, 3) := by decide +kernel
theorem d_M_partOf_11 : decode prog_8_method_34_code 11 = .ok (.iload_n 1, 1) := by decide +kernel
theorem d_M_partOf_12 : decode prog_8_method_34_code 12 = .ok (.iaload, 1) := by decide +kernel
theorem d_M_partOf_13 : decode prog_8_method_34_code 13 = .ok (.if_icmp .ge 45, 3) := by decide +kernel
theorem d_M_partOf_16 : decode prog_8_method_34_code 16 = .ok (.aload_n 0, 1) := by decide +kernel
theorem d_M_partOf_17 : decode prog_8_method_34_code 17 = .ok (.getfield 13, 3) := by decide +kernel
theorem d_M_partOf_20 : decode prog_8_method_34_code 20 = .ok (.sipush 600, 3) := by decide +kernel
theorem d_M_partOf_23 : decode prog_8_method_34_code 23 = .ok (.bipush 16, 2) := by decide +kernel
theorem d_M_partOf_25 : decode prog_8_method_34_code 25 = .ok (.iload_n 1, 1) := by decide +kernel
theorem d_M_partOf_26 : decode prog_8_method_34_code 26 = .ok (.imul, 1) := by decide +kernel
theorem d_M_partOf_27 : decode prog_8_method_34_code 27 = .ok (.iadd, 1) := by decide +kernel
theorem d_M_partOf_28 : decode prog_8_method_34_code 28 = .ok (.iload 4, 2) := by decide +kernel
theorem d_M_partOf_30 : decode prog_8_method_34_code 30 = .ok (.iadd, 1) := by decide +kernel
theorem d_M_partOf_31 : decode prog_8_method_34_code 31 = .ok (.iaload, 1) := by decide +kernel
theorem d_M_partOf_32 : decode prog_8_method_34_code 32 = .ok (.iload_n 2, 1) := by decide +kernel
theorem d_M_partOf_33 : decode prog_8_method_34_code 33 = .ok (.if_icmp .ne 17, 3) := by decide +kernel
theorem d_M_partOf_36 : decode prog_8_method_34_code 36 = .ok (.sipush 600, 3) := by decide +kernel
theorem d_M_partOf_39 : decode prog_8_method_34_code 39 = .ok (.bipush 16, 2) := by decide +kernel
theorem d_M_partOf_41 : decode prog_8_method_34_code 41 = .ok (.iload_n 1, 1) := by decide +kernel
theorem d_M_partOf_42 : decode prog_8_method_34_code 42 = .ok (.imul, 1) := by decide +kernel
theorem d_M_partOf_43 : decode prog_8_method_34_code 43 = .ok (.iadd, 1) := by decide +kernel
theorem d_M_partOf_44 : decode prog_8_method_34_code 44 = .ok (.iload 4, 2) := by decide +kernel
theorem d_M_partOf_46 : decode prog_8_method_34_code 46 = .ok (.iadd, 1) := by decide +kernel
theorem d_M_partOf_47 : decode prog_8_method_34_code 47 = .ok (.goto 4, 3) := by decide +kernel
theorem d_M_partOf_50 : decode prog_8_method_34_code 50 = .ok (.iload_n 3, 1) := by decide +kernel
theorem d_M_partOf_51 : decode prog_8_method_34_code 51 = .ok (.istore_n 3, 1) := by decide +kernel
theorem d_M_partOf_52 : decode prog_8_method_34_code 52 = .ok (.iinc 4 1, 3) := by decide +kernel
theorem d_M_partOf_55 : decode prog_8_method_34_code 55 = .ok (.goto (-50), 3) := by decide +kernel
theorem d_M_partOf_58 : decode prog_8_method_34_code 58 = .ok (.iload_n 3, 1) := by decide +kernel
theorem d_M_partOf_59 : decode prog_8_method_34_code 59 = .ok (.ireturn, 1) := by decide +kernel
theorem d_M_count_0 : decode prog_8_method_36_code 0 = .ok (.aload_n 0, 1) := by decide +kernel
theorem d_M_count_1 : decode prog_8_method_36_code 1 = .ok (.iconst 0, 1) := by decide +kernel
theorem d_M_count_2 : decode prog_8_method_36_code 2 = .ok (.putfield 61, 3) := by decide +kernel
theorem d_M_count_5 : decode prog_8_method_36_code 5 = .ok (.aload_n 0, 1) := by decide +kernel
theorem d_M_count_6 : decode prog_8_method_36_code 6 = .ok (.getfield 71, 3) := by decide +kernel
theorem d_M_count_9 : decode prog_8_method_36_code 9 = .ok (.ireturn, 1) := by decide +kernel
theorem d_M_terms_0 : decode prog_8_method_37_code 0 = .ok (.aload_n 0, 1) := by decide +kernel
theorem d_M_terms_1 : decode prog_8_method_37_code 1 = .ok (.iconst 0, 1) := by decide +kernel
theorem d_M_terms_2 : decode prog_8_method_37_code 2 = .ok (.putfield 61, 3) := by decide +kernel
theorem d_M_terms_5 : decode prog_8_method_37_code 5 = .ok (.aload_n 0, 1) := by decide +kernel
theorem d_M_terms_6 : decode prog_8_method_37_code 6 = .ok (.iload_n 1, 1) := by decide +kernel
theorem d_M_terms_7 : decode prog_8_method_37_code 7 = .ok (.invokevirtual 151, 3) := by decide +kernel
theorem d_M_terms_10 : decode prog_8_method_37_code 10 = .ok (.ifCond .eq 12, 3) := by decide +kernel
theorem d_M_terms_13 : decode prog_8_method_37_code 13 = .ok (.aload_n 0, 1) := by decide +kernel
theorem d_M_terms_14 : decode prog_8_method_37_code 14 = .ok (.getfield 21, 3) := by decide +kernel
theorem d_M_terms_17 : decode prog_8_method_37_code 17 = .ok (.iload_n 1, 1) := by decide +kernel
theorem d_M_terms_18 : decode prog_8_method_37_code 18 = .ok (.iaload, 1) := by decide +kernel
theorem d_M_terms_19 : decode prog_8_method_37_code 19 = .ok (.goto 4, 3) := by decide +kernel
theorem d_M_terms_22 : decode prog_8_method_37_code 22 = .ok (.iconst (-1), 1) := by decide +kernel
theorem d_M_terms_23 : decode prog_8_method_37_code 23 = .ok (.ireturn, 1) := by decide +kernel
theorem d_M_part_0 : decode prog_8_method_39_code 0 = .ok (.aload_n 0, 1) := by decide +kernel
theorem d_M_part_1 : decode prog_8_method_39_code 1 = .ok (.iconst 0, 1) := by decide +kernel
theorem d_M_part_2 : decode prog_8_method_39_code 2 = .ok (.putfield 61, 3) := by decide +kernel
theorem d_M_part_5 : decode prog_8_method_39_code 5 = .ok (.aload_n 0, 1) := by decide +kernel
theorem d_M_part_6 : decode prog_8_method_39_code 6 = .ok (.iload_n 1, 1) := by decide +kernel
theorem d_M_part_7 : decode prog_8_method_39_code 7 = .ok (.iload_n 2, 1) := by decide +kernel
theorem d_M_part_8 : decode prog_8_method_39_code 8 = .ok (.invokevirtual 157, 3) := by decide +kernel
theorem d_M_part_11 : decode prog_8_method_39_code 11 = .ok (.ifCond .eq 21, 3) := by decide +kernel
theorem d_M_part_14 : decode prog_8_method_39_code 14 = .ok (.aload_n 0, 1) := by decide +kernel
theorem d_M_part_15 : decode prog_8_method_39_code 15 = .ok (.sipush 600, 3) := by decide +kernel
theorem d_M_part_18 : decode prog_8_method_39_code 18 = .ok (.bipush 16, 2) := by decide +kernel
theorem d_M_part_20 : decode prog_8_method_39_code 20 = .ok (.iload_n 1, 1) := by decide +kernel
theorem d_M_part_21 : decode prog_8_method_39_code 21 = .ok (.imul, 1) := by decide +kernel
theorem d_M_part_22 : decode prog_8_method_39_code 22 = .ok (.iadd, 1) := by decide +kernel
theorem d_M_part_23 : decode prog_8_method_39_code 23 = .ok (.iload_n 2, 1) := by decide +kernel
theorem d_M_part_24 : decode prog_8_method_39_code 24 = .ok (.iadd, 1) := by decide +kernel
theorem d_M_part_25 : decode prog_8_method_39_code 25 = .ok (.iload_n 3, 1) := by decide +kernel
theorem d_M_part_26 : decode prog_8_method_39_code 26 = .ok (.invokevirtual 111, 3) := by decide +kernel
theorem d_M_part_29 : decode prog_8_method_39_code 29 = .ok (.goto 4, 3) := by decide +kernel
theorem d_M_part_32 : decode prog_8_method_39_code 32 = .ok (.iconst (-1), 1) := by decide +kernel
theorem d_M_part_33 : decode prog_8_method_39_code 33 = .ok (.ireturn, 1) := by decide +kernel
theorem d_M_isPart_0 : decode prog_8_method_38_code 0 = .ok (.aload_n 0, 1) := by decide +kernel
theorem d_M_isPart_1 : decode prog_8_method_38_code 1 = .ok (.iload_n 1, 1) := by decide +kernel
theorem d_M_isPart_2 : decode prog_8_method_38_code 2 = .ok (.invokevirtual 151, 3) := by decide +kernel
theorem d_M_isPart_5 : decode prog_8_method_38_code 5 = .ok (.ifCond .eq 21, 3) := by decide +kernel
theorem d_M_isPart_8 : decode prog_8_method_38_code 8 = .ok (.iload_n 2, 1) := by decide +kernel
theorem d_M_isPart_9 : decode prog_8_method_38_code 9 = .ok (.ifCond .lt 17, 3) := by decide +kernel
theorem d_M_isPart_12 : decode prog_8_method_38_code 12 = .ok (.iload_n 2, 1) := by decide +kernel
theorem d_M_isPart_13 : decode prog_8_method_38_code 13 = .ok (.aload_n 0, 1) := by decide +kernel
theorem d_M_isPart_14 : decode prog_8_method_38_code 14 = .ok (.getfield 21, 3) := by decide +kernel
theorem d_M_isPart_17 : decode prog_8_method_38_code 17 = .ok (.iload_n 1, 1) := by decide +kernel
theorem d_M_isPart_18 : decode prog_8_method_38_code 18 = .ok (.iaload, 1) := by decide +kernel
theorem d_M_isPart_19 : decode prog_8_method_38_code 19 = .ok (.if_icmp .ge 7, 3) := by decide +kernel
theorem d_M_isPart_22 : decode prog_8_method_38_code 22 = .ok (.iconst 1, 1) := by decide +kernel
theorem d_M_isPart_23 : decode prog_8_method_38_code 23 = .ok (.goto 4, 3) := by decide +kernel
theorem d_M_isPart_26 : decode prog_8_method_38_code 26 = .ok (.iconst 0, 1) := by decide +kernel
theorem d_M_isPart_27 : decode prog_8_method_38_code 27 = .ok (.ireturn, 1) := by decide +kernel
theorem d_M_partSet_0 : decode prog_8_method_40_code 0 = .ok (.aload_n 0, 1) := by decide +kernel
theorem d_M_partSet_1 : decode prog_8_method_40_code 1 = .ok (.iconst 0, 1) := by decide +kernel
theorem d_M_partSet_2 : decode prog_8_method_40_code 2 = .ok (.putfield 61, 3) := by decide +kernel
theorem d_M_partSet_5 : decode prog_8_method_40_code 5 = .ok (.aload_n 0, 1) := by decide +kernel
theorem d_M_partSet_6 : decode prog_8_method_40_code 6 = .ok (.iload_n 1, 1) := by decide +kernel
theorem d_M_partSet_7 : decode prog_8_method_40_code 7 = .ok (.iload_n 2, 1) := by decide +kernel
theorem d_M_partSet_8 : decode prog_8_method_40_code 8 = .ok (.invokevirtual 157, 3) := by decide +kernel
theorem d_M_partSet_11 : decode prog_8_method_40_code 11 = .ok (.ifCond .eq 20, 3) := by decide +kernel
theorem d_M_partSet_14 : decode prog_8_method_40_code 14 = .ok (.aload_n 0, 1) := by decide +kernel
theorem d_M_partSet_15 : decode prog_8_method_40_code 15 = .ok (.sipush 600, 3) := by decide +kernel
theorem d_M_partSet_18 : decode prog_8_method_40_code 18 = .ok (.bipush 16, 2) := by decide +kernel
theorem d_M_partSet_20 : decode prog_8_method_40_code 20 = .ok (.iload_n 1, 1) := by decide +kernel
theorem d_M_partSet_21 : decode prog_8_method_40_code 21 = .ok (.imul, 1) := by decide +kernel
theorem d_M_partSet_22 : decode prog_8_method_40_code 22 = .ok (.iadd, 1) := by decide +kernel
theorem d_M_partSet_23 : decode prog_8_method_40_code 23 = .ok (.iload_n 2, 1) := by decide +kernel
theorem d_M_partSet_24 : decode prog_8_method_40_code 24 = .ok (.iadd, 1) := by decide +kernel
theorem d_M_partSet_25 : decode prog_8_method_40_code 25 = .ok (.invokevirtual 114, 3) := by decide +kernel
theorem d_M_partSet_28 : decode prog_8_method_40_code 28 = .ok (.goto 4, 3) := by decide +kernel
theorem d_M_partSet_31 : decode prog_8_method_40_code 31 = .ok (.lconst 0, 1) := by decide +kernel
theorem d_M_partSet_32 : decode prog_8_method_40_code 32 = .ok (.lreturn, 1) := by decide +kernel
theorem d_M_choose_0 : decode prog_8_method_41_code 0 = .ok (.aload_n 0, 1) := by decide +kernel
theorem d_M_choose_1 : decode prog_8_method_41_code 1 = .ok (.iconst 0, 1) := by decide +kernel
theorem d_M_choose_2 : decode prog_8_method_41_code 2 = .ok (.putfield 61, 3) := by decide +kernel
theorem d_M_choose_5 : decode prog_8_method_41_code 5 = .ok (.aload_n 0, 1) := by decide +kernel
theorem d_M_choose_6 : decode prog_8_method_41_code 6 = .ok (.iload_n 1, 1) := by decide +kernel
theorem d_M_choose_7 : decode prog_8_method_41_code 7 = .ok (.invokevirtual 100, 3) := by decide +kernel
theorem d_M_choose_10 : decode prog_8_method_41_code 10 = .ok (.ifCond .ne 5, 3) := by decide +kernel
theorem d_M_choose_13 : decode prog_8_method_41_code 13 = .ok (.iconst 0, 1) := by decide +kernel
theorem d_M_choose_14 : decode prog_8_method_41_code 14 = .ok (.ireturn, 1) := by decide +kernel
theorem d_M_choose_15 : decode prog_8_method_41_code 15 = .ok (.aload_n 0, 1) := by decide +kernel
theorem d_M_choose_16 : decode prog_8_method_41_code 16 = .ok (.sipush 5400, 3) := by decide +kernel
theorem d_M_choose_19 : decode prog_8_method_41_code 19 = .ok (.aload_n 0, 1) := by decide +kernel
theorem d_M_choose_20 : decode prog_8_method_41_code 20 = .ok (.getfield 13, 3) := by decide +kernel
theorem d_M_choose_23 : decode prog_8_method_41_code 23 = .ok (.iload_n 1, 1) := by decide +kernel
theorem d_M_choose_24 : decode prog_8_method_41_code 24 = .ok (.iaload, 1) := by decide +kernel
theorem d_M_choose_25 : decode prog_8_method_41_code 25 = .ok (.iadd, 1) := by decide +kernel
theorem d_M_choose_26 : decode prog_8_method_41_code 26 = .ok (.sipush 5400, 3) := by decide +kernel
theorem d_M_choose_29 : decode prog_8_method_41_code 29 = .ok (.aload_n 0, 1) := by decide +kernel
theorem d_M_choose_30 : decode prog_8_method_41_code 30 = .ok (.getfield 13, 3) := by decide +kernel
theorem d_M_choose_33 : decode prog_8_method_41_code 33 = .ok (.iload_n 1, 1) := by decide +kernel
theorem d_M_choose_34 : decode prog_8_method_41_code 34 = .ok (.iaload, 1) := by decide +kernel
theorem d_M_choose_35 : decode prog_8_method_41_code 35 = .ok (.iadd, 1) := by decide +kernel
theorem d_M_choose_36 : decode prog_8_method_41_code 36 = .ok (.iload_n 1, 1) := by decide +kernel
theorem d_M_choose_37 : decode prog_8_method_41_code 37 = .ok (.iconst 0, 1) := by decide +kernel
theorem d_M_choose_38 : decode prog_8_method_41_code 38 = .ok (.invokevirtual 103, 3) := by decide +kernel
theorem d_M_choose_41 : decode prog_8_method_41_code 41 = .ok (.iconst 1, 1) := by decide +kernel
theorem d_M_choose_42 : decode prog_8_method_41_code 42 = .ok (.ireturn, 1) := by decide +kernel
theorem d_M_forget_0 : decode prog_8_method_42_code 0 = .ok (.aload_n 0, 1) := by decide +kernel
theorem d_M_forget_1 : decode prog_8_method_42_code 1 = .ok (.iconst 0, 1) := by decide +kernel
theorem d_M_forget_2 : decode prog_8_method_42_code 2 = .ok (.putfield 61, 3) := by decide +kernel
theorem d_M_forget_5 : decode prog_8_method_42_code 5 = .ok (.iconst 0, 1) := by decide +kernel
theorem d_M_forget_6 : decode prog_8_method_42_code 6 = .ok (.istore_n 1, 1) := by decide +kernel
theorem d_M_forget_7 : decode prog_8_method_42_code 7 = .ok (.iload_n 1, 1) := by decide +kernel
theorem d_M_forget_8 : decode prog_8_method_42_code 8 = .ok (.aload_n 0, 1) := by decide +kernel
theorem d_M_forget_9 : decode prog_8_method_42_code 9 = .ok (.getfield 65, 3) := by decide +kernel
theorem d_M_forget_12 : decode prog_8_method_42_code 12 = .ok (.if_icmp .ge 18, 3) := by decide +kernel
theorem d_M_forget_15 : decode prog_8_method_42_code 15 = .ok (.aload_n 0, 1) := by decide +kernel
theorem d_M_forget_16 : decode prog_8_method_42_code 16 = .ok (.sipush 5400, 3) := by decide +kernel
theorem d_M_forget_19 : decode prog_8_method_42_code 19 = .ok (.iload_n 1, 1) := by decide +kernel
theorem d_M_forget_20 : decode prog_8_method_42_code 20 = .ok (.iadd, 1) := by decide +kernel
theorem d_M_forget_21 : decode prog_8_method_42_code 21 = .ok (.invokevirtual 74, 3) := by decide +kernel
theorem d_M_forget_24 : decode prog_8_method_42_code 24 = .ok (.iinc 1 1, 3) := by decide +kernel
theorem d_M_forget_27 : decode prog_8_method_42_code 27 = .ok (.goto (-20), 3) := by decide +kernel
theorem d_M_forget_30 : decode prog_8_method_42_code 30 = .ok (.return_, 1) := by decide +kernel
theorem d_M_state_0 : decode prog_8_method_47_code 0 = .ok (.aload_n 0, 1) := by decide +kernel
theorem d_M_state_1 : decode prog_8_method_47_code 1 = .ok (.iconst 0, 1) := by decide +kernel
theorem d_M_state_2 : decode prog_8_method_47_code 2 = .ok (.putfield 61, 3) := by decide +kernel
theorem d_M_state_5 : decode prog_8_method_47_code 5 = .ok (.aload_n 0, 1) := by decide +kernel
theorem d_M_state_6 : decode prog_8_method_47_code 6 = .ok (.iload_n 1, 1) := by decide +kernel
theorem d_M_state_7 : decode prog_8_method_47_code 7 = .ok (.invokevirtual 151, 3) := by decide +kernel
theorem d_M_state_10 : decode prog_8_method_47_code 10 = .ok (.ifCond .eq 11, 3) := by decide +kernel
theorem d_M_state_13 : decode prog_8_method_47_code 13 = .ok (.aload_n 0, 1) := by decide +kernel
theorem d_M_state_14 : decode prog_8_method_47_code 14 = .ok (.iload_n 1, 1) := by decide +kernel
theorem d_M_state_15 : decode prog_8_method_47_code 15 = .ok (.invokevirtual 167, 3) := by decide +kernel
theorem d_M_state_18 : decode prog_8_method_47_code 18 = .ok (.goto 5, 3) := by decide +kernel
theorem d_M_state_21 : decode prog_8_method_47_code 21 = .ok (.bipush (-2), 2) := by decide +kernel
theorem d_M_state_23 : decode prog_8_method_47_code 23 = .ok (.ireturn, 1) := by decide +kernel
theorem d_M_look_0 : decode prog_8_method_45_code 0 = .ok (.aload_n 0, 1) := by decide +kernel
theorem d_M_look_1 : decode prog_8_method_45_code 1 = .ok (.iload_n 1, 1) := by decide +kernel
theorem d_M_look_2 : decode prog_8_method_45_code 2 = .ok (.iconst (-1), 1) := by decide +kernel
theorem d_M_look_3 : decode prog_8_method_45_code 3 = .ok (.invokevirtual 164, 3) := by decide +kernel
theorem d_M_look_6 : decode prog_8_method_45_code 6 = .ok (.ifCond .le 5, 3) := by decide +kernel
theorem d_M_look_9 : decode prog_8_method_45_code 9 = .ok (.iconst (-1), 1) := by decide +kernel
theorem d_M_look_10 : decode prog_8_method_45_code 10 = .ok (.ireturn, 1) := by decide +kernel
theorem d_M_look_11 : decode prog_8_method_45_code 11 = .ok (.aload_n 0, 1) := by decide +kernel
theorem d_M_look_12 : decode prog_8_method_45_code 12 = .ok (.iload_n 1, 1) := by decide +kernel
theorem d_M_look_13 : decode prog_8_method_45_code 13 = .ok (.iconst 0, 1) := by decide +kernel
theorem d_M_look_14 : decode prog_8_method_45_code 14 = .ok (.invokevirtual 164, 3) := by decide +kernel
theorem d_M_look_17 : decode prog_8_method_45_code 17 = .ok (.istore_n 2, 1) := by decide +kernel
theorem d_M_look_18 : decode prog_8_method_45_code 18 = .ok (.iload_n 2, 1) := by decide +kernel
theorem d_M_look_19 : decode prog_8_method_45_code 19 = .ok (.ifCond .ne 7, 3) := by decide +kernel
theorem d_M_look_22 : decode prog_8_method_45_code 22 = .ok (.iconst 1, 1) := by decide +kernel
theorem d_M_look_23 : decode prog_8_method_45_code 23 = .ok (.goto 13, 3) := by decide +kernel
theorem d_M_look_26 : decode prog_8_method_45_code 26 = .ok (.iload_n 2, 1) := by decide +kernel
theorem d_M_look_27 : decode prog_8_method_45_code 27 = .ok (.iconst 1, 1) := by decide +kernel
theorem d_M_look_28 : decode prog_8_method_45_code 28 = .ok (.if_icmp .ne 7, 3) := by decide +kernel
theorem d_M_look_31 : decode prog_8_method_45_code 31 = .ok (.iconst 2, 1) := by decide +kernel
theorem d_M_look_32 : decode prog_8_method_45_code 32 = .ok (.goto 4, 3) := by decide +kernel
theorem d_M_look_35 : decode prog_8_method_45_code 35 = .ok (.iconst 0, 1) := by decide +kernel
theorem d_M_look_36 : decode prog_8_method_45_code 36 = .ok (.ireturn, 1) := by decide +kernel
theorem d_M_counted_0 : decode prog_8_method_44_code 0 = .ok (.iconst 0, 1) := by decide +kernel
theorem d_M_counted_1 : decode prog_8_method_44_code 1 = .ok (.istore_n 3, 1) := by decide +kernel
theorem d_M_counted_2 : decode prog_8_method_44_code 2 = .ok (.iconst 0, 1) := by decide +kernel
theorem d_M_counted_3 : decode prog_8_method_44_code 3 = .ok (.istore 4, 2) := by decide +kernel
theorem d_M_counted_5 : decode prog_8_method_44_code 5 = .ok (.iload 4, 2) := by decide +kernel
theorem d_M_counted_7 : decode prog_8_method_44_code 7 = .ok (.aload_n 0, 1) := by decide +kernel
theorem d_M_counted_8 : decode prog_8_method_44_code 8 = .ok (.getfield 21, 3) := by decide +kernel
theorem d_M_counted_11 : decode prog_8_method_44_code 11 = .ok (.iload_n 1, 1) := by decide +kernel
theorem d_M_counted_12 : decode prog_8_method_44_code 12 = .ok (.iaload, 1) := by decide +kernel
theorem d_M_counted_13 : decode prog_8_method_44_code 13 = .ok (.if_icmp .ge 36, 3) := by decide +kernel
theorem d_M_counted_16 : decode prog_8_method_44_code 16 = .ok (.iload_n 3, 1) := by decide +kernel
theorem d_M_counted_17 : decode prog_8_method_44_code 17 = .ok (.aload_n 0, 1) := by decide +kernel
theorem d_M_counted_18 : decode prog_8_method_44_code 18 = .ok (.sipush 600, 3) := by decide +kernel
theorem d_M_counted_21 : decode prog_8_method_44_code 21 = .ok (.bipush 16, 2) := by decide +kernel
theorem d_M_counted_23 : decode prog_8_method_44_code 23 = .ok (.iload_n 1, 1) := by decide +kernel
theorem d_M_counted_24 : decode prog_8_method_44_code 24 = .ok (.imul, 1) := by decide +kernel
theorem d_M_counted_25 : decode prog_8_method_44_code 25 = .ok (.iadd, 1) := by decide +kernel
theorem d_M_counted_26 : decode prog_8_method_44_code 26 = .ok (.iload 4, 2) := by decide +kernel
theorem d_M_counted_28 : decode prog_8_method_44_code 28 = .ok (.iadd, 1) := by decide +kernel
theorem d_M_counted_29 : decode prog_8_method_44_code 29 = .ok (.invokevirtual 160, 3) := by decide +kernel
theorem d_M_counted_32 : decode prog_8_method_44_code 32 = .ok (.iload_n 2, 1) := by decide +kernel
theorem d_M_counted_33 : decode prog_8_method_44_code 33 = .ok (.if_icmp .ne 7, 3) := by decide +kernel
theorem d_M_counted_36 : decode prog_8_method_44_code 36 = .ok (.iconst 1, 1) := by decide +kernel
theorem d_M_counted_37 : decode prog_8_method_44_code 37 = .ok (.goto 4, 3) := by decide +kernel
theorem d_M_counted_40 : decode prog_8_method_44_code 40 = .ok (.iconst 0, 1) := by decide +kernel
theorem d_M_counted_41 : decode prog_8_method_44_code 41 = .ok (.iadd, 1) := by decide +kernel
theorem d_M_counted_42 : decode prog_8_method_44_code 42 = .ok (.istore_n 3, 1) := by decide +kernel
theorem d_M_counted_43 : decode prog_8_method_44_code 43 = .ok (.iinc 4 1, 3) := by decide +kernel
theorem d_M_counted_46 : decode prog_8_method_44_code 46 = .ok (.goto (-41), 3) := by decide +kernel
theorem d_M_counted_49 : decode prog_8_method_44_code 49 = .ok (.iload_n 3, 1) := by decide +kernel
theorem d_M_counted_50 : decode prog_8_method_44_code 50 = .ok (.ireturn, 1) := by decide +kernel
theorem d_M_stateOf_0 : decode prog_8_method_43_code 0 = .ok (.aload_n 0, 1) := by decide +kernel
theorem d_M_stateOf_1 : decode prog_8_method_43_code 1 = .ok (.sipush 5400, 3) := by decide +kernel
theorem d_M_stateOf_4 : decode prog_8_method_43_code 4 = .ok (.aload_n 0, 1) := by decide +kernel
theorem d_M_stateOf_5 : decode prog_8_method_43_code 5 = .ok (.getfield 13, 3) := by decide +kernel
theorem d_M_stateOf_8 : decode prog_8_method_43_code 8 = .ok (.iload_n 1, 1) := by decide +kernel
theorem d_M_stateOf_9 : decode prog_8_method_43_code 9 = .ok (.iaload, 1) := by decide +kernel
theorem d_M_stateOf_10 : decode prog_8_method_43_code 10 = .ok (.iadd, 1) := by decide +kernel
theorem d_M_stateOf_11 : decode prog_8_method_43_code 11 = .ok (.iload_n 1, 1) := by decide +kernel
theorem d_M_stateOf_12 : decode prog_8_method_43_code 12 = .ok (.invokevirtual 107, 3) := by decide +kernel
theorem d_M_stateOf_15 : decode prog_8_method_43_code 15 = .ok (.ireturn, 1) := by decide +kernel
theorem d_M_forced_0 : decode prog_8_method_48_code 0 = .ok (.aload_n 0, 1) := by decide +kernel
theorem d_M_forced_1 : decode prog_8_method_48_code 1 = .ok (.iconst 0, 1) := by decide +kernel
theorem d_M_forced_2 : decode prog_8_method_48_code 2 = .ok (.putfield 61, 3) := by decide +kernel
theorem d_M_forced_5 : decode prog_8_method_48_code 5 = .ok (.aload_n 0, 1) := by decide +kernel
theorem d_M_forced_6 : decode prog_8_method_48_code 6 = .ok (.iload_n 1, 1) := by decide +kernel
theorem d_M_forced_7 : decode prog_8_method_48_code 7 = .ok (.invokevirtual 151, 3) := by decide +kernel
theorem d_M_forced_10 : decode prog_8_method_48_code 10 = .ok (.ifCond .eq 20, 3) := by decide +kernel
theorem d_M_forced_13 : decode prog_8_method_48_code 13 = .ok (.aload_n 0, 1) := by decide +kernel
theorem d_M_forced_14 : decode prog_8_method_48_code 14 = .ok (.iload_n 1, 1) := by decide +kernel
theorem d_M_forced_15 : decode prog_8_method_48_code 15 = .ok (.invokevirtual 167, 3) := by decide +kernel
theorem d_M_forced_18 : decode prog_8_method_48_code 18 = .ok (.iconst 2, 1) := by decide +kernel
theorem d_M_forced_19 : decode prog_8_method_48_code 19 = .ok (.if_icmp .ne 11, 3) := by decide +kernel
theorem d_M_forced_22 : decode prog_8_method_48_code 22 = .ok (.aload_n 0, 1) := by decide +kernel
theorem d_M_forced_23 : decode prog_8_method_48_code 23 = .ok (.iload_n 1, 1) := by decide +kernel
theorem d_M_forced_24 : decode prog_8_method_48_code 24 = .ok (.invokevirtual 170, 3) := by decide +kernel
theorem d_M_forced_27 : decode prog_8_method_48_code 27 = .ok (.goto 4, 3) := by decide +kernel
theorem d_M_forced_30 : decode prog_8_method_48_code 30 = .ok (.iconst (-1), 1) := by decide +kernel
theorem d_M_forced_31 : decode prog_8_method_48_code 31 = .ok (.ireturn, 1) := by decide +kernel
theorem d_M_openPart_0 : decode prog_8_method_46_code 0 = .ok (.iconst (-1), 1) := by decide +kernel
theorem d_M_openPart_1 : decode prog_8_method_46_code 1 = .ok (.istore_n 2, 1) := by decide +kernel
theorem d_M_openPart_2 : decode prog_8_method_46_code 2 = .ok (.iconst 0, 1) := by decide +kernel
theorem d_M_openPart_3 : decode prog_8_method_46_code 3 = .ok (.istore_n 3, 1) := by decide +kernel
theorem d_M_openPart_4 : decode prog_8_method_46_code 4 = .ok (.iload_n 3, 1) := by decide +kernel
theorem d_M_openPart_5 : decode prog_8_method_46_code 5 = .ok (.aload_n 0, 1) := by decide +kernel
theorem d_M_openPart_6 : decode prog_8_method_46_code 6 = .ok (.getfield 21, 3) := by decide +kernel
theorem d_M_openPart_9 : decode prog_8_method_46_code 9 = .ok (.iload_n 1, 1) := by decide +kernel
theorem d_M_openPart_10 : decode prog_8_method_46_code 10 = .ok (.iaload, 1) := by decide +kernel
theorem d_M_openPart_11 : decode prog_8_method_46_code 11 = .ok (.if_icmp .ge 32, 3) := by decide +kernel
theorem d_M_openPart_14 : decode prog_8_method_46_code 14 = .ok (.aload_n 0, 1) := by decide +kernel
theorem d_M_openPart_15 : decode prog_8_method_46_code 15 = .ok (.sipush 600, 3) := by decide +kernel
theorem d_M_openPart_18 : decode prog_8_method_46_code 18 = .ok (.bipush 16, 2) := by decide +kernel
theorem d_M_openPart_20 : decode prog_8_method_46_code 20 = .ok (.iload_n 1, 1) := by decide +kernel
theorem d_M_openPart_21 : decode prog_8_method_46_code 21 = .ok (.imul, 1) := by decide +kernel
theorem d_M_openPart_22 : decode prog_8_method_46_code 22 = .ok (.iadd, 1) := by decide +kernel
theorem d_M_openPart_23 : decode prog_8_method_46_code 23 = .ok (.iload_n 3, 1) := by decide +kernel
theorem d_M_openPart_24 : decode prog_8_method_46_code 24 = .ok (.iadd, 1) := by decide +kernel
theorem d_M_openPart_25 : decode prog_8_method_46_code 25 = .ok (.invokevirtual 160, 3) := by decide +kernel
theorem d_M_openPart_28 : decode prog_8_method_46_code 28 = .ok (.ifCond .ne 7, 3) := by decide +kernel
theorem d_M_openPart_31 : decode prog_8_method_46_code 31 = .ok (.iload_n 3, 1) := by decide +kernel
theorem d_M_openPart_32 : decode prog_8_method_46_code 32 = .ok (.goto 4, 3) := by decide +kernel
theorem d_M_openPart_35 : decode prog_8_method_46_code 35 = .ok (.iload_n 2, 1) := by decide +kernel
theorem d_M_openPart_36 : decode prog_8_method_46_code 36 = .ok (.istore_n 2, 1) := by decide +kernel
theorem d_M_openPart_37 : decode prog_8_method_46_code 37 = .ok (.iinc 3 1, 3) := by decide +kernel
theorem d_M_openPart_40 : decode prog_8_method_46_code 40 = .ok (.goto (-36), 3) := by decide +kernel
theorem d_M_openPart_43 : decode prog_8_method_46_code 43 = .ok (.iload_n 2, 1) := by decide +kernel
theorem d_M_openPart_44 : decode prog_8_method_46_code 44 = .ok (.ireturn, 1) := by decide +kernel
theorem d_M_spread_0 : decode prog_8_method_50_code 0 = .ok (.aload_n 0, 1) := by decide +kernel
theorem d_M_spread_1 : decode prog_8_method_50_code 1 = .ok (.iconst 0, 1) := by decide +kernel
theorem d_M_spread_2 : decode prog_8_method_50_code 2 = .ok (.putfield 61, 3) := by decide +kernel
theorem d_M_spread_5 : decode prog_8_method_50_code 5 = .ok (.iconst 1, 1) := by decide +kernel
theorem d_M_spread_6 : decode prog_8_method_50_code 6 = .ok (.istore_n 1, 1) := by decide +kernel
theorem d_M_spread_7 : decode prog_8_method_50_code 7 = .ok (.iload_n 1, 1) := by decide +kernel
theorem d_M_spread_8 : decode prog_8_method_50_code 8 = .ok (.ifCond .eq 130, 3) := by decide +kernel
theorem d_M_spread_11 : decode prog_8_method_50_code 11 = .ok (.iconst 0, 1) := by decide +kernel
theorem d_M_spread_12 : decode prog_8_method_50_code 12 = .ok (.istore_n 1, 1) := by decide +kernel
theorem d_M_spread_13 : decode prog_8_method_50_code 13 = .ok (.iconst 0, 1) := by decide +kernel
theorem d_M_spread_14 : decode prog_8_method_50_code 14 = .ok (.istore_n 2, 1) := by decide +kernel
theorem d_M_spread_15 : decode prog_8_method_50_code 15 = .ok (.iload_n 2, 1) := by decide +kernel
theorem d_M_spread_16 : decode prog_8_method_50_code 16 = .ok (.aload_n 0, 1) := by decide +kernel
theorem d_M_spread_17 : decode prog_8_method_50_code 17 = .ok (.getfield 71, 3) := by decide +kernel
theorem d_M_spread_20 : decode prog_8_method_50_code 20 = .ok (.if_icmp .ge 115, 3) := by decide +kernel
theorem d_M_spread_23 : decode prog_8_method_50_code 23 = .ok (.aload_n 0, 1) := by decide +kernel
theorem d_M_spread_24 : decode prog_8_method_50_code 24 = .ok (.iload_n 2, 1) := by decide +kernel
theorem d_M_spread_25 : decode prog_8_method_50_code 25 = .ok (.invokevirtual 167, 3) := by decide +kernel
theorem d_M_spread_28 : decode prog_8_method_50_code 28 = .ok (.istore_n 3, 1) := by decide +kernel
theorem d_M_spread_29 : decode prog_8_method_50_code 29 = .ok (.iload_n 3, 1) := by decide +kernel
theorem d_M_spread_30 : decode prog_8_method_50_code 30 = .ok (.iconst 1, 1) := by decide +kernel
theorem d_M_spread_31 : decode prog_8_method_50_code 31 = .ok (.if_icmp .ne 8, 3) := by decide +kernel
theorem d_M_spread_34 : decode prog_8_method_50_code 34 = .ok (.aload_n 0, 1) := by decide +kernel
theorem d_M_spread_35 : decode prog_8_method_50_code 35 = .ok (.invokevirtual 173, 3) := by decide +kernel
theorem d_M_spread_38 : decode prog_8_method_50_code 38 = .ok (.ireturn, 1) := by decide +kernel
theorem d_M_spread_39 : decode prog_8_method_50_code 39 = .ok (.iload_n 3, 1) := by decide +kernel
theorem d_M_spread_40 : decode prog_8_method_50_code 40 = .ok (.iconst 2, 1) := by decide +kernel
theorem d_M_spread_41 : decode prog_8_method_50_code 41 = .ok (.if_icmp .eq 6, 3) := by decide +kernel
theorem d_M_spread_44 : decode prog_8_method_50_code 44 = .ok (.goto 85, 3) := by decide +kernel
theorem d_M_spread_47 : decode prog_8_method_50_code 47 = .ok (.sipush 600, 3) := by decide +kernel
theorem d_M_spread_50 : decode prog_8_method_50_code 50 = .ok (.bipush 16, 2) := by decide +kernel
theorem d_M_spread_52 : decode prog_8_method_50_code 52 = .ok (.iload_n 2, 1) := by decide +kernel
theorem d_M_spread_53 : decode prog_8_method_50_code 53 = .ok (.imul, 1) := by decide +kernel
theorem d_M_spread_54 : decode prog_8_method_50_code 54 = .ok (.iadd, 1) := by decide +kernel
theorem d_M_spread_55 : decode prog_8_method_50_code 55 = .ok (.aload_n 0, 1) := by decide +kernel
theorem d_M_spread_56 : decode prog_8_method_50_code 56 = .ok (.iload_n 2, 1) := by decide +kernel
theorem d_M_spread_57 : decode prog_8_method_50_code 57 = .ok (.invokevirtual 170, 3) := by decide +kernel
theorem d_M_spread_60 : decode prog_8_method_50_code 60 = .ok (.iadd, 1) := by decide +kernel
theorem d_M_spread_61 : decode prog_8_method_50_code 61 = .ok (.istore 4, 2) := by decide +kernel
theorem d_M_spread_63 : decode prog_8_method_50_code 63 = .ok (.sipush 5400, 3) := by decide +kernel
theorem d_M_spread_66 : decode prog_8_method_50_code 66 = .ok (.aload_n 0, 1) := by decide +kernel
theorem d_M_spread_67 : decode prog_8_method_50_code 67 = .ok (.getfield 13, 3) := by decide +kernel
theorem d_M_spread_70 : decode prog_8_method_50_code 70 = .ok (.iload 4, 2) := by decide +kernel
theorem d_M_spread_72 : decode prog_8_method_50_code 72 = .ok (.iaload, 1) := by decide +kernel
theorem d_M_spread_73 : decode prog_8_method_50_code 73 = .ok (.iadd, 1) := by decide +kernel
theorem d_M_spread_74 : decode prog_8_method_50_code 74 = .ok (.istore 5, 2) := by decide +kernel
theorem d_M_spread_76 : decode prog_8_method_50_code 76 = .ok (.iconst (-1), 1) := by decide +kernel
theorem d_M_spread_77 : decode prog_8_method_50_code 77 = .ok (.istore 6, 2) := by decide +kernel
theorem d_M_spread_79 : decode prog_8_method_50_code 79 = .ok (.iload 6, 2) := by decide +kernel
theorem d_M_spread_81 : decode prog_8_method_50_code 81 = .ok (.bipush 48, 2) := by decide +kernel
theorem d_M_spread_83 : decode prog_8_method_50_code 83 = .ok (.if_icmp .ge 44, 3) := by decide +kernel
theorem d_M_spread_86 : decode prog_8_method_50_code 86 = .ok (.aload_n 0, 1) := by decide +kernel
theorem d_M_spread_87 : decode prog_8_method_50_code 87 = .ok (.iload 5, 2) := by decide +kernel
theorem d_M_spread_89 : decode prog_8_method_50_code 89 = .ok (.iload 6, 2) := by decide +kernel
theorem d_M_spread_91 : decode prog_8_method_50_code 91 = .ok (.aload_n 0, 1) := by decide +kernel
theorem d_M_spread_92 : decode prog_8_method_50_code 92 = .ok (.iload 5, 2) := by decide +kernel
theorem d_M_spread_94 : decode prog_8_method_50_code 94 = .ok (.iload 6, 2) := by decide +kernel
theorem d_M_spread_96 : decode prog_8_method_50_code 96 = .ok (.invokevirtual 82, 3) := by decide +kernel
theorem d_M_spread_99 : decode prog_8_method_50_code 99 = .ok (.ifCond .eq 18, 3) := by decide +kernel
theorem d_M_spread_102 : decode prog_8_method_50_code 102 = .ok (.aload_n 0, 1) := by decide +kernel
theorem d_M_spread_103 : decode prog_8_method_50_code 103 = .ok (.iload 4, 2) := by decide +kernel
theorem d_M_spread_105 : decode prog_8_method_50_code 105 = .ok (.iload 6, 2) := by decide +kernel
theorem d_M_spread_107 : decode prog_8_method_50_code 107 = .ok (.invokevirtual 82, 3) := by decide +kernel
theorem d_M_spread_110 : decode prog_8_method_50_code 110 = .ok (.ifCond .ne 7, 3) := by decide +kernel
theorem d_M_spread_113 : decode prog_8_method_50_code 113 = .ok (.iconst 1, 1) := by decide +kernel
theorem d_M_spread_114 : decode prog_8_method_50_code 114 = .ok (.goto 4, 3) := by decide +kernel
theorem d_M_spread_117 : decode prog_8_method_50_code 117 = .ok (.iconst 0, 1) := by decide +kernel
theorem d_M_spread_118 : decode prog_8_method_50_code 118 = .ok (.invokevirtual 78, 3) := by decide +kernel
theorem d_M_spread_121 : decode prog_8_method_50_code 121 = .ok (.iinc 6 1, 3) := by decide +kernel
theorem d_M_spread_124 : decode prog_8_method_50_code 124 = .ok (.goto (-45), 3) := by decide +kernel
theorem d_M_spread_127 : decode prog_8_method_50_code 127 = .ok (.iconst 1, 1) := by decide +kernel
theorem d_M_spread_128 : decode prog_8_method_50_code 128 = .ok (.istore_n 1, 1) := by decide +kernel
theorem d_M_spread_129 : decode prog_8_method_50_code 129 = .ok (.iinc 2 1, 3) := by decide +kernel
theorem d_M_spread_132 : decode prog_8_method_50_code 132 = .ok (.goto (-117), 3) := by decide +kernel
theorem d_M_spread_135 : decode prog_8_method_50_code 135 = .ok (.goto (-128), 3) := by decide +kernel
theorem d_M_spread_138 : decode prog_8_method_50_code 138 = .ok (.iconst (-1), 1) := by decide +kernel
theorem d_M_spread_139 : decode prog_8_method_50_code 139 = .ok (.ireturn, 1) := by decide +kernel
theorem d_M_firstKept_0 : decode prog_8_method_49_code 0 = .ok (.iconst 0, 1) := by decide +kernel
theorem d_M_firstKept_1 : decode prog_8_method_49_code 1 = .ok (.istore_n 1, 1) := by decide +kernel
theorem d_M_firstKept_2 : decode prog_8_method_49_code 2 = .ok (.iload_n 1, 1) := by decide +kernel
theorem d_M_firstKept_3 : decode prog_8_method_49_code 3 = .ok (.aload_n 0, 1) := by decide +kernel
theorem d_M_firstKept_4 : decode prog_8_method_49_code 4 = .ok (.getfield 71, 3) := by decide +kernel
theorem d_M_firstKept_7 : decode prog_8_method_49_code 7 = .ok (.if_icmp .ge 20, 3) := by decide +kernel
theorem d_M_firstKept_10 : decode prog_8_method_49_code 10 = .ok (.aload_n 0, 1) := by decide +kernel
theorem d_M_firstKept_11 : decode prog_8_method_49_code 11 = .ok (.iload_n 1, 1) := by decide +kernel
theorem d_M_firstKept_12 : decode prog_8_method_49_code 12 = .ok (.invokevirtual 167, 3) := by decide +kernel
theorem d_M_firstKept_15 : decode prog_8_method_49_code 15 = .ok (.iconst 1, 1) := by decide +kernel
theorem d_M_firstKept_16 : decode prog_8_method_49_code 16 = .ok (.if_icmp .ne 5, 3) := by decide +kernel
theorem d_M_firstKept_19 : decode prog_8_method_49_code 19 = .ok (.iload_n 1, 1) := by decide +kernel
theorem d_M_firstKept_20 : decode prog_8_method_49_code 20 = .ok (.ireturn, 1) := by decide +kernel
theorem d_M_firstKept_21 : decode prog_8_method_49_code 21 = .ok (.iinc 1 1, 3) := by decide +kernel
theorem d_M_firstKept_24 : decode prog_8_method_49_code 24 = .ok (.goto (-22), 3) := by decide +kernel
theorem d_M_firstKept_27 : decode prog_8_method_49_code 27 = .ok (.iconst (-1), 1) := by decide +kernel
theorem d_M_firstKept_28 : decode prog_8_method_49_code 28 = .ok (.ireturn, 1) := by decide +kernel
theorem d_M_chosen_0 : decode prog_8_method_51_code 0 = .ok (.aload_n 0, 1) := by decide +kernel
theorem d_M_chosen_1 : decode prog_8_method_51_code 1 = .ok (.iconst 0, 1) := by decide +kernel
theorem d_M_chosen_2 : decode prog_8_method_51_code 2 = .ok (.putfield 61, 3) := by decide +kernel
theorem d_M_chosen_5 : decode prog_8_method_51_code 5 = .ok (.aload_n 0, 1) := by decide +kernel
theorem d_M_chosen_6 : decode prog_8_method_51_code 6 = .ok (.iload_n 1, 1) := by decide +kernel
theorem d_M_chosen_7 : decode prog_8_method_51_code 7 = .ok (.invokevirtual 93, 3) := by decide +kernel
theorem d_M_chosen_10 : decode prog_8_method_51_code 10 = .ok (.ifCond .eq 16, 3) := by decide +kernel
theorem d_M_chosen_13 : decode prog_8_method_51_code 13 = .ok (.aload_n 0, 1) := by decide +kernel
theorem d_M_chosen_14 : decode prog_8_method_51_code 14 = .ok (.sipush 5400, 3) := by decide +kernel
theorem d_M_chosen_17 : decode prog_8_method_51_code 17 = .ok (.iload_n 1, 1) := by decide +kernel
theorem d_M_chosen_18 : decode prog_8_method_51_code 18 = .ok (.iadd, 1) := by decide +kernel
theorem d_M_chosen_19 : decode prog_8_method_51_code 19 = .ok (.iload_n 2, 1) := by decide +kernel
theorem d_M_chosen_20 : decode prog_8_method_51_code 20 = .ok (.invokevirtual 111, 3) := by decide +kernel
theorem d_M_chosen_23 : decode prog_8_method_51_code 23 = .ok (.goto 4, 3) := by decide +kernel
theorem d_M_chosen_26 : decode prog_8_method_51_code 26 = .ok (.iconst (-1), 1) := by decide +kernel
theorem d_M_chosen_27 : decode prog_8_method_51_code 27 = .ok (.ireturn, 1) := by decide +kernel
theorem d_M_chosenSet_0 : decode prog_8_method_52_code 0 = .ok (.aload_n 0, 1) := by decide +kernel
theorem d_M_chosenSet_1 : decode prog_8_method_52_code 1 = .ok (.iconst 0, 1) := by decide +kernel
theorem d_M_chosenSet_2 : decode prog_8_method_52_code 2 = .ok (.putfield 61, 3) := by decide +kernel
theorem d_M_chosenSet_5 : decode prog_8_method_52_code 5 = .ok (.aload_n 0, 1) := by decide +kernel
theorem d_M_chosenSet_6 : decode prog_8_method_52_code 6 = .ok (.iload_n 1, 1) := by decide +kernel
theorem d_M_chosenSet_7 : decode prog_8_method_52_code 7 = .ok (.invokevirtual 93, 3) := by decide +kernel
theorem d_M_chosenSet_10 : decode prog_8_method_52_code 10 = .ok (.ifCond .eq 15, 3) := by decide +kernel
theorem d_M_chosenSet_13 : decode prog_8_method_52_code 13 = .ok (.aload_n 0, 1) := by decide +kernel
theorem d_M_chosenSet_14 : decode prog_8_method_52_code 14 = .ok (.sipush 5400, 3) := by decide +kernel
theorem d_M_chosenSet_17 : decode prog_8_method_52_code 17 = .ok (.iload_n 1, 1) := by decide +kernel
theorem d_M_chosenSet_18 : decode prog_8_method_52_code 18 = .ok (.iadd, 1) := by decide +kernel
theorem d_M_chosenSet_19 : decode prog_8_method_52_code 19 = .ok (.invokevirtual 114, 3) := by decide +kernel
theorem d_M_chosenSet_22 : decode prog_8_method_52_code 22 = .ok (.goto 4, 3) := by decide +kernel
theorem d_M_chosenSet_25 : decode prog_8_method_52_code 25 = .ok (.lconst 0, 1) := by decide +kernel
theorem d_M_chosenSet_26 : decode prog_8_method_52_code 26 = .ok (.lreturn, 1) := by decide +kernel
theorem d_M_print_0 : decode prog_8_method_56_code 0 = .ok (.aload_n 0, 1) := by decide +kernel
theorem d_M_print_1 : decode prog_8_method_56_code 1 = .ok (.iconst 0, 1) := by decide +kernel
theorem d_M_print_2 : decode prog_8_method_56_code 2 = .ok (.putfield 61, 3) := by decide +kernel
theorem d_M_print_5 : decode prog_8_method_56_code 5 = .ok (.aload_n 0, 1) := by decide +kernel
theorem d_M_print_6 : decode prog_8_method_56_code 6 = .ok (.iload_n 1, 1) := by decide +kernel
theorem d_M_print_7 : decode prog_8_method_56_code 7 = .ok (.invokevirtual 151, 3) := by decide +kernel
theorem d_M_print_10 : decode prog_8_method_56_code 10 = .ok (.ifCond .ne 5, 3) := by decide +kernel
theorem d_M_print_13 : decode prog_8_method_56_code 13 = .ok (.iconst (-1), 1) := by decide +kernel
theorem d_M_print_14 : decode prog_8_method_56_code 14 = .ok (.ireturn, 1) := by decide +kernel
theorem d_M_print_15 : decode prog_8_method_56_code 15 = .ok (.aload_n 0, 1) := by decide +kernel
theorem d_M_print_16 : decode prog_8_method_56_code 16 = .ok (.iconst 0, 1) := by decide +kernel
theorem d_M_print_17 : decode prog_8_method_56_code 17 = .ok (.putfield 177, 3) := by decide +kernel
theorem d_M_print_20 : decode prog_8_method_56_code 20 = .ok (.iconst 0, 1) := by decide +kernel
theorem d_M_print_21 : decode prog_8_method_56_code 21 = .ok (.istore_n 2, 1) := by decide +kernel
theorem d_M_print_22 : decode prog_8_method_56_code 22 = .ok (.iload_n 2, 1) := by decide +kernel
theorem d_M_print_23 : decode prog_8_method_56_code 23 = .ok (.aload_n 0, 1) := by decide +kernel
theorem d_M_print_24 : decode prog_8_method_56_code 24 = .ok (.getfield 21, 3) := by decide +kernel
theorem d_M_print_27 : decode prog_8_method_56_code 27 = .ok (.iload_n 1, 1) := by decide +kernel
theorem d_M_print_28 : decode prog_8_method_56_code 28 = .ok (.iaload, 1) := by decide +kernel
theorem d_M_print_29 : decode prog_8_method_56_code 29 = .ok (.if_icmp .ge 39, 3) := by decide +kernel
theorem d_M_print_32 : decode prog_8_method_56_code 32 = .ok (.iload_n 2, 1) := by decide +kernel
theorem d_M_print_33 : decode prog_8_method_56_code 33 = .ok (.ifCond .le 15, 3) := by decide +kernel
theorem d_M_print_36 : decode prog_8_method_56_code 36 = .ok (.aload_n 0, 1) := by decide +kernel
theorem d_M_print_37 : decode prog_8_method_56_code 37 = .ok (.bipush 59, 2) := by decide +kernel
theorem d_M_print_39 : decode prog_8_method_56_code 39 = .ok (.invokevirtual 180, 3) := by decide +kernel
theorem d_M_print_42 : decode prog_8_method_56_code 42 = .ok (.aload_n 0, 1) := by decide +kernel
theorem d_M_print_43 : decode prog_8_method_56_code 43 = .ok (.bipush 32, 2) := by decide +kernel
theorem d_M_print_45 : decode prog_8_method_56_code 45 = .ok (.invokevirtual 180, 3) := by decide +kernel
theorem d_M_print_48 : decode prog_8_method_56_code 48 = .ok (.aload_n 0, 1) := by decide +kernel
theorem d_M_print_49 : decode prog_8_method_56_code 49 = .ok (.sipush 600, 3) := by decide +kernel
theorem d_M_print_52 : decode prog_8_method_56_code 52 = .ok (.bipush 16, 2) := by decide +kernel
theorem d_M_print_54 : decode prog_8_method_56_code 54 = .ok (.iload_n 1, 1) := by decide +kernel
theorem d_M_print_55 : decode prog_8_method_56_code 55 = .ok (.imul, 1) := by decide +kernel
theorem d_M_print_56 : decode prog_8_method_56_code 56 = .ok (.iadd, 1) := by decide +kernel
theorem d_M_print_57 : decode prog_8_method_56_code 57 = .ok (.iload_n 2, 1) := by decide +kernel
theorem d_M_print_58 : decode prog_8_method_56_code 58 = .ok (.iadd, 1) := by decide +kernel
theorem d_M_print_59 : decode prog_8_method_56_code 59 = .ok (.invokevirtual 186, 3) := by decide +kernel
theorem d_M_print_62 : decode prog_8_method_56_code 62 = .ok (.iinc 2 1, 3) := by decide +kernel
theorem d_M_print_65 : decode prog_8_method_56_code 65 = .ok (.goto (-43), 3) := by decide +kernel
theorem d_M_print_68 : decode prog_8_method_56_code 68 = .ok (.aload_n 0, 1) := by decide +kernel
theorem d_M_print_69 : decode prog_8_method_56_code 69 = .ok (.getfield 177, 3) := by decide +kernel
theorem d_M_print_72 : decode prog_8_method_56_code 72 = .ok (.ireturn, 1) := by decide +kernel
theorem d_M_put_0 : decode prog_8_method_53_code 0 = .ok (.aload_n 0, 1) := by decide +kernel
theorem d_M_put_1 : decode prog_8_method_53_code 1 = .ok (.getfield 58, 3) := by decide +kernel
theorem d_M_put_4 : decode prog_8_method_53_code 4 = .ok (.aload_n 0, 1) := by decide +kernel
theorem d_M_put_5 : decode prog_8_method_53_code 5 = .ok (.getfield 177, 3) := by decide +kernel
theorem d_M_put_8 : decode prog_8_method_53_code 8 = .ok (.iload_n 1, 1) := by decide +kernel
theorem d_M_put_9 : decode prog_8_method_53_code 9 = .ok (.iastore, 1) := by decide +kernel
theorem d_M_put_10 : decode prog_8_method_53_code 10 = .ok (.aload_n 0, 1) := by decide +kernel
theorem d_M_put_11 : decode prog_8_method_53_code 11 = .ok (.dup, 1) := by decide +kernel
theorem d_M_put_12 : decode prog_8_method_53_code 12 = .ok (.getfield 177, 3) := by decide +kernel
theorem d_M_put_15 : decode prog_8_method_53_code 15 = .ok (.iconst 1, 1) := by decide +kernel
theorem d_M_put_16 : decode prog_8_method_53_code 16 = .ok (.iadd, 1) := by decide +kernel
theorem d_M_put_17 : decode prog_8_method_53_code 17 = .ok (.putfield 177, 3) := by decide +kernel
theorem d_M_put_20 : decode prog_8_method_53_code 20 = .ok (.return_, 1) := by decide +kernel
theorem d_M_putTerm_0 : decode prog_8_method_55_code 0 = .ok (.aload_n 0, 1) := by decide +kernel
theorem d_M_putTerm_1 : decode prog_8_method_55_code 1 = .ok (.iload_n 1, 1) := by decide +kernel
theorem d_M_putTerm_2 : decode prog_8_method_55_code 2 = .ok (.invokevirtual 86, 3) := by decide +kernel
theorem d_M_putTerm_5 : decode prog_8_method_55_code 5 = .ok (.ifCond .ne 9, 3) := by decide +kernel
theorem d_M_putTerm_8 : decode prog_8_method_55_code 8 = .ok (.aload_n 0, 1) := by decide +kernel
theorem d_M_putTerm_9 : decode prog_8_method_55_code 9 = .ok (.bipush 33, 2) := by decide +kernel
theorem d_M_putTerm_11 : decode prog_8_method_55_code 11 = .ok (.invokevirtual 180, 3) := by decide +kernel
theorem d_M_putTerm_14 : decode prog_8_method_55_code 14 = .ok (.aload_n 0, 1) := by decide +kernel
theorem d_M_putTerm_15 : decode prog_8_method_55_code 15 = .ok (.bipush 97, 2) := by decide +kernel
theorem d_M_putTerm_17 : decode prog_8_method_55_code 17 = .ok (.aload_n 0, 1) := by decide +kernel
theorem d_M_putTerm_18 : decode prog_8_method_55_code 18 = .ok (.getfield 13, 3) := by decide +kernel
theorem d_M_putTerm_21 : decode prog_8_method_55_code 21 = .ok (.iload_n 1, 1) := by decide +kernel
theorem d_M_putTerm_22 : decode prog_8_method_55_code 22 = .ok (.iaload, 1) := by decide +kernel
theorem d_M_putTerm_23 : decode prog_8_method_55_code 23 = .ok (.iadd, 1) := by decide +kernel
theorem d_M_putTerm_24 : decode prog_8_method_55_code 24 = .ok (.invokevirtual 180, 3) := by decide +kernel
theorem d_M_putTerm_27 : decode prog_8_method_55_code 27 = .ok (.aload_n 0, 1) := by decide +kernel
theorem d_M_putTerm_28 : decode prog_8_method_55_code 28 = .ok (.bipush 32, 2) := by decide +kernel
theorem d_M_putTerm_30 : decode prog_8_method_55_code 30 = .ok (.invokevirtual 180, 3) := by decide +kernel
theorem d_M_putTerm_33 : decode prog_8_method_55_code 33 = .ok (.iconst 0, 1) := by decide +kernel
theorem d_M_putTerm_34 : decode prog_8_method_55_code 34 = .ok (.istore_n 2, 1) := by decide +kernel
theorem d_M_putTerm_35 : decode prog_8_method_55_code 35 = .ok (.iconst 0, 1) := by decide +kernel
theorem d_M_putTerm_36 : decode prog_8_method_55_code 36 = .ok (.istore_n 3, 1) := by decide +kernel
theorem d_M_putTerm_37 : decode prog_8_method_55_code 37 = .ok (.iload_n 3, 1) := by decide +kernel
theorem d_M_putTerm_38 : decode prog_8_method_55_code 38 = .ok (.bipush 48, 2) := by decide +kernel
theorem d_M_putTerm_40 : decode prog_8_method_55_code 40 = .ok (.if_icmp .ge 95, 3) := by decide +kernel
theorem d_M_putTerm_43 : decode prog_8_method_55_code 43 = .ok (.aload_n 0, 1) := by decide +kernel
theorem d_M_putTerm_44 : decode prog_8_method_55_code 44 = .ok (.iload_n 1, 1) := by decide +kernel
theorem d_M_putTerm_45 : decode prog_8_method_55_code 45 = .ok (.iload_n 3, 1) := by decide +kernel
theorem d_M_putTerm_46 : decode prog_8_method_55_code 46 = .ok (.invokevirtual 90, 3) := by decide +kernel
theorem d_M_putTerm_49 : decode prog_8_method_55_code 49 = .ok (.ifCond .eq 80, 3) := by decide +kernel
theorem d_M_putTerm_52 : decode prog_8_method_55_code 52 = .ok (.iload_n 3, 1) := by decide +kernel
theorem d_M_putTerm_53 : decode prog_8_method_55_code 53 = .ok (.ifCond .le 17, 3) := by decide +kernel
theorem d_M_putTerm_56 : decode prog_8_method_55_code 56 = .ok (.aload_n 0, 1) := by decide +kernel
theorem d_M_putTerm_57 : decode prog_8_method_55_code 57 = .ok (.iload_n 1, 1) := by decide +kernel
theorem d_M_putTerm_58 : decode prog_8_method_55_code 58 = .ok (.iload_n 3, 1) := by decide +kernel
theorem d_M_putTerm_59 : decode prog_8_method_55_code 59 = .ok (.iconst 1, 1) := by decide +kernel
theorem d_M_putTerm_60 : decode prog_8_method_55_code 60 = .ok (.isub, 1) := by decide +kernel
theorem d_M_putTerm_61 : decode prog_8_method_55_code 61 = .ok (.invokevirtual 90, 3) := by decide +kernel
theorem d_M_putTerm_64 : decode prog_8_method_55_code 64 = .ok (.ifCond .eq 6, 3) := by decide +kernel
theorem d_M_putTerm_67 : decode prog_8_method_55_code 67 = .ok (.goto 62, 3) := by decide +kernel
theorem d_M_putTerm_70 : decode prog_8_method_55_code 70 = .ok (.iload_n 3, 1) := by decide +kernel
theorem d_M_putTerm_71 : decode prog_8_method_55_code 71 = .ok (.istore 4, 2) := by decide +kernel
theorem d_M_putTerm_73 : decode prog_8_method_55_code 73 = .ok (.aload_n 0, 1) := by decide +kernel
theorem d_M_putTerm_74 : decode prog_8_method_55_code 74 = .ok (.iload_n 1, 1) := by decide +kernel
theorem d_M_putTerm_75 : decode prog_8_method_55_code 75 = .ok (.iload 4, 2) := by decide +kernel
theorem d_M_putTerm_77 : decode prog_8_method_55_code 77 = .ok (.iconst 1, 1) := by decide +kernel
theorem d_M_putTerm_78 : decode prog_8_method_55_code 78 = .ok (.iadd, 1) := by decide +kernel
theorem d_M_putTerm_79 : decode prog_8_method_55_code 79 = .ok (.invokevirtual 90, 3) := by decide +kernel
theorem d_M_putTerm_82 : decode prog_8_method_55_code 82 = .ok (.ifCond .eq 9, 3) := by decide +kernel
theorem d_M_putTerm_85 : decode prog_8_method_55_code 85 = .ok (.iinc 4 1, 3) := by decide +kernel
theorem d_M_putTerm_88 : decode prog_8_method_55_code 88 = .ok (.goto (-15), 3) := by decide +kernel
theorem d_M_putTerm_91 : decode prog_8_method_55_code 91 = .ok (.iload_n 2, 1) := by decide +kernel
theorem d_M_putTerm_92 : decode prog_8_method_55_code 92 = .ok (.ifCond .eq 9, 3) := by decide +kernel
theorem d_M_putTerm_95 : decode prog_8_method_55_code 95 = .ok (.aload_n 0, 1) := by decide +kernel
theorem d_M_putTerm_96 : decode prog_8_method_55_code 96 = .ok (.bipush 44, 2) := by decide +kernel
theorem d_M_putTerm_98 : decode prog_8_method_55_code 98 = .ok (.invokevirtual 180, 3) := by decide +kernel
theorem d_M_putTerm_101 : decode prog_8_method_55_code 101 = .ok (.iconst 1, 1) := by decide +kernel
theorem d_M_putTerm_102 : decode prog_8_method_55_code 102 = .ok (.istore_n 2, 1) := by decide +kernel
theorem d_M_putTerm_103 : decode prog_8_method_55_code 103 = .ok (.aload_n 0, 1) := by decide +kernel
theorem d_M_putTerm_104 : decode prog_8_method_55_code 104 = .ok (.iload_n 3, 1) := by decide +kernel
theorem d_M_putTerm_105 : decode prog_8_method_55_code 105 = .ok (.invokevirtual 183, 3) := by decide +kernel
theorem d_M_putTerm_108 : decode prog_8_method_55_code 108 = .ok (.iload 4, 2) := by decide +kernel
theorem d_M_putTerm_110 : decode prog_8_method_55_code 110 = .ok (.iload_n 3, 1) := by decide +kernel
theorem d_M_putTerm_111 : decode prog_8_method_55_code 111 = .ok (.if_icmp .ne 6, 3) := by decide +kernel
theorem d_M_putTerm_114 : decode prog_8_method_55_code 114 = .ok (.goto 15, 3) := by decide +kernel
theorem d_M_putTerm_117 : decode prog_8_method_55_code 117 = .ok (.aload_n 0, 1) := by decide +kernel
theorem d_M_putTerm_118 : decode prog_8_method_55_code 118 = .ok (.bipush 45, 2) := by decide +kernel
theorem d_M_putTerm_120 : decode prog_8_method_55_code 120 = .ok (.invokevirtual 180, 3) := by decide +kernel
theorem d_M_putTerm_123 : decode prog_8_method_55_code 123 = .ok (.aload_n 0, 1) := by decide +kernel
theorem d_M_putTerm_124 : decode prog_8_method_55_code 124 = .ok (.iload 4, 2) := by decide +kernel
theorem d_M_putTerm_126 : decode prog_8_method_55_code 126 = .ok (.invokevirtual 183, 3) := by decide +kernel
theorem d_M_putTerm_129 : decode prog_8_method_55_code 129 = .ok (.iinc 3 1, 3) := by decide +kernel
theorem d_M_putTerm_132 : decode prog_8_method_55_code 132 = .ok (.goto (-95), 3) := by decide +kernel
theorem d_M_putTerm_135 : decode prog_8_method_55_code 135 = .ok (.return_, 1) := by decide +kernel
theorem d_M_putNumber_0 : decode prog_8_method_54_code 0 = .ok (.iload_n 1, 1) := by decide +kernel
theorem d_M_putNumber_1 : decode prog_8_method_54_code 1 = .ok (.bipush 9, 2) := by decide +kernel
theorem d_M_putNumber_3 : decode prog_8_method_54_code 3 = .ok (.if_icmp .le 14, 3) := by decide +kernel
theorem d_M_putNumber_6 : decode prog_8_method_54_code 6 = .ok (.aload_n 0, 1) := by decide +kernel
theorem d_M_putNumber_7 : decode prog_8_method_54_code 7 = .ok (.bipush 48, 2) := by decide +kernel
theorem d_M_putNumber_9 : decode prog_8_method_54_code 9 = .ok (.iload_n 1, 1) := by decide +kernel
theorem d_M_putNumber_10 : decode prog_8_method_54_code 10 = .ok (.bipush 10, 2) := by decide +kernel
theorem d_M_putNumber_12 : decode prog_8_method_54_code 12 = .ok (.idiv, 1) := by decide +kernel
theorem d_M_putNumber_13 : decode prog_8_method_54_code 13 = .ok (.iadd, 1) := by decide +kernel
theorem d_M_putNumber_14 : decode prog_8_method_54_code 14 = .ok (.invokevirtual 180, 3) := by decide +kernel
theorem d_M_putNumber_17 : decode prog_8_method_54_code 17 = .ok (.aload_n 0, 1) := by decide +kernel
theorem d_M_putNumber_18 : decode prog_8_method_54_code 18 = .ok (.bipush 48, 2) := by decide +kernel
theorem d_M_putNumber_20 : decode prog_8_method_54_code 20 = .ok (.iload_n 1, 1) := by decide +kernel
theorem d_M_putNumber_21 : decode prog_8_method_54_code 21 = .ok (.bipush 10, 2) := by decide +kernel
theorem d_M_putNumber_23 : decode prog_8_method_54_code 23 = .ok (.irem, 1) := by decide +kernel
theorem d_M_putNumber_24 : decode prog_8_method_54_code 24 = .ok (.iadd, 1) := by decide +kernel
theorem d_M_putNumber_25 : decode prog_8_method_54_code 25 = .ok (.invokevirtual 180, 3) := by decide +kernel
theorem d_M_putNumber_28 : decode prog_8_method_54_code 28 = .ok (.return_, 1) := by decide +kernel
theorem d_M_at_0 : decode prog_8_method_57_code 0 = .ok (.aload_n 0, 1) := by decide +kernel
theorem d_M_at_1 : decode prog_8_method_57_code 1 = .ok (.iconst 0, 1) := by decide +kernel
theorem d_M_at_2 : decode prog_8_method_57_code 2 = .ok (.putfield 61, 3) := by decide +kernel
theorem d_M_at_5 : decode prog_8_method_57_code 5 = .ok (.iload_n 1, 1) := by decide +kernel
theorem d_M_at_6 : decode prog_8_method_57_code 6 = .ok (.ifCond .lt 11, 3) := by decide +kernel
theorem d_M_at_9 : decode prog_8_method_57_code 9 = .ok (.iload_n 1, 1) := by decide +kernel
theorem d_M_at_10 : decode prog_8_method_57_code 10 = .ok (.aload_n 0, 1) := by decide +kernel
theorem d_M_at_11 : decode prog_8_method_57_code 11 = .ok (.getfield 177, 3) := by decide +kernel
theorem d_M_at_14 : decode prog_8_method_57_code 14 = .ok (.if_icmp .lt 7, 3) := by decide +kernel
theorem d_M_at_17 : decode prog_8_method_57_code 17 = .ok (.iconst (-1), 1) := by decide +kernel
theorem d_M_at_18 : decode prog_8_method_57_code 18 = .ok (.goto 9, 3) := by decide +kernel
theorem d_M_at_21 : decode prog_8_method_57_code 21 = .ok (.aload_n 0, 1) := by decide +kernel
theorem d_M_at_22 : decode prog_8_method_57_code 22 = .ok (.getfield 58, 3) := by decide +kernel
theorem d_M_at_25 : decode prog_8_method_57_code 25 = .ok (.iload_n 1, 1) := by decide +kernel
theorem d_M_at_26 : decode prog_8_method_57_code 26 = .ok (.iaload, 1) := by decide +kernel
theorem d_M_at_27 : decode prog_8_method_57_code 27 = .ok (.ireturn, 1) := by decide +kernel
end
section
/-! OUR ROWS: the kit's rows with heap, locations and the locals' array hidden. -/
def zl : List (Nat × Value) → Nat → Option Value
  | [], _ => none
  | (k, w) :: r, i => cond (Nat.beq k i) (some w) (zl r i)
theorem zl_mem : ∀ (lv : List (Nat × Value)) (i : Nat) (v : Value), zl lv i = some v → (i, v) ∈ lv
  | [], _, _, h => by simp [zl] at h
  | (k, w) :: r, i, v, h => by
    cases hk : Nat.beq k i with
    | true =>
      have e : k = i := Nat.eq_of_beq_eq_true hk
      simp only [zl, hk, cond_true] at h
      rw [← e, ← Option.some.inj h]
      exact List.mem_cons_self
    | false =>
      simp only [zl, hk, cond_false] at h
      exact List.mem_cons_of_mem _ (zl_mem r i v h)
theorem zl_at {ls : Array Slot} {nL : Nat} {lv : List (Nat × Value)} {i : Nat} {v : Value} (h : lv_has ls nL lv) (hl : zl lv i = some v) : ls[i]? = some (.val v) := h.2.2 (i, v) (zl_mem lv i v hl)
def bI (b : Bool) : Int32 := cond b 1 0
theorem bI_t : bI true = 1 := rfl
theorem bI_f : bI false = 0 := rfl
theorem bI_0 {b : Bool} : bI b = 0 ↔ b = false := by cases b <;> simp [bI]
/-- the links between nest mates -/
def zNw (U : State) : Prop := ∀ q ∈ NWs, va_Nw (.methodLinkNest q.1 q.2.1 q.2.2.1 q.2.2.2) U
theorem zNw.warm {s U : State} (hW : s.WarmedH U.vm) (h : zNw s) : zNw U := fun q hq => va_Nw.warmM hW (h q hq)
theorem zNw.same {u U : State} (e : u.vm = U.vm) (h : zNw u) : zNw U := fun q hq => va_Nw.same rfl e (h q hq)
/-- what stands fast in a method's walk -/
def Cx (p : Program) (s : State) (m : MethodId) (args : Array Value) (c : Code) (cc : ByteArray) (nL : Nat) (own : String) (Ts : List Cond) (D : va_G) (cl : List vw_C) (tys : List (ClassId × FieldType)) (A : Nat → Prop) : Prop :=
  CallFix p m c cc nL s args Ts own ∧ va_K D cl tys s ∧ (∀ q : Nat, s.heap.size ≤ q → A q) ∧ zNw s
def zW (p : Program) (l : Launch) (e : Env) (R : Room) (s : State) (m : MethodId) (args : Array Value) (below : List Frame) (meth : Method) (c : Code) (D : va_G) (cl : List vw_C) (A : Nat → Prop) (nL cells slots : Nat) (Q : State → Prop) (ws : va_W) (pc : Nat) (lv : List (Nat × Value)) (st : List Value) : Prop :=
  ∀ (H : Heap) (locs : List Loc) (ls : Array Slot), va_P D cl ws H → va_D A ws → va_S A s.heap H locs → lv_has ls nL lv → W p l e R s m args below meth c H locs cells slots Q (F0 m pc ls st)
/-- contracts over a world V u: an int, a truth value, a long, nothing -/
def zPc {S : Type} (D : va_G) (cl : List vw_C) (tys : List (ClassId × FieldType)) (V : S → va_W) (u : S) (sz : Nat) : State → Prop := fun U => U.heap.size = sz ∧ va_P D cl (V u) U.heap ∧ va_K D cl tys U ∧ va_D (fun _ => True) (V u) ∧ zNw U
def zBc {S : Type} (D : va_G) (cl : List vw_C) (tys : List (ClassId × FieldType)) (V : S → va_W) (u : S) (sz : Nat) : S → State → Prop := fun u' t => va_P D cl (V u') t.heap ∧ va_K D cl tys t ∧ va_D (va_A (V u) sz) (V u')
def MI {S : Type} (l : Launch) (D : va_G) (cl : List vw_C) (tys : List (ClassId × FieldType)) (V : S → va_W) (y : MethodName) (wy : List Cond) (rm : Room) (av : List Value) (u : S) (r : Int32) (u1 : S) : Prop :=
  ∀ sz : Nat, Met l y wy rm (va_Pc av (zPc D cl tys V u sz)) (va_Qi (fun r' u' => r' = r ∧ u' = u1) (zBc D cl tys V u sz) (va_A (V u) sz)) 0 0 (va_A (V u) sz)
def ML {S : Type} (l : Launch) (D : va_G) (cl : List vw_C) (tys : List (ClassId × FieldType)) (V : S → va_W) (y : MethodName) (wy : List Cond) (rm : Room) (av : List Value) (u : S) (r : Int64) (u1 : S) : Prop :=
  ∀ sz : Nat, Met l y wy rm (va_Pc av (zPc D cl tys V u sz)) (va_Ql (fun r' u' => r' = r ∧ u' = u1) (zBc D cl tys V u sz) (va_A (V u) sz)) 0 0 (va_A (V u) sz)
def MV {S : Type} (l : Launch) (D : va_G) (cl : List vw_C) (tys : List (ClassId × FieldType)) (V : S → va_W) (y : MethodName) (wy : List Cond) (rm : Room) (av : List Value) (u : S) (u1 : S) : Prop :=
  ∀ sz : Nat, Met l y wy rm (va_Pc av (zPc D cl tys V u sz)) (va_Qv (fun u' => u' = u1) (zBc D cl tys V u sz) (va_A (V u) sz)) 0 0 (va_A (V u) sz)
theorem zPc_blind {S : Type} {D : va_G} {cl : List vw_C} {tys : List (ClassId × FieldType)} {V : S → va_W} {u : S} {sz : Nat} {av : List Value} : FrameBlind (va_Pc av (zPc D cl tys V u sz)) := fun a U g mk q => by
  obtain ⟨q0, q1, qP, qK, qD, qN⟩ := q
  exact ⟨q0, q1, qP, va_K.moved (u := U) (U := U.calling g mk a) (Vm.Alike.refl U.vm) qK, qD, zNw.same (u := U) (U := U.calling g mk a) rfl qN⟩
section ZR
variable {p : Program} {l : Launch} {e : Env} {R : Room} {s : State} {m : MethodId} {args : Array Value} {below : List Frame} {meth : Method} {c : Code} {cells slots : Nat} {Q : State → Prop}
variable {D : va_G} {cl : List vw_C} {tys : List (ClassId × FieldType)} {A : Nat → Prop} {nL : Nat} {own : String} {Ts : List Cond} {cc : ByteArray} {ws : va_W} {pc : Nat} {lv : List (Nat × Value)} {st : List Value}
theorem z_iconst (K : Cx p s m args c cc nL own Ts D cl tys A) {n : Int} {v : Int32} (hd : decode cc pc = .ok (.iconst n, 1)) (hv : Int32.ofInt n = v) (kk : zW p l e R s m args below meth c D cl A nL cells slots Q ws (pc + 1) lv (.int v :: st)) : zW p l e R s m args below meth c D cl A nL cells slots Q ws pc lv st := fun H locs ls hP hD hS h => lv_iconst K.1.1 K.1.2.1 hd hv (kk H locs ls hP hD hS h)
theorem z_bipush (K : Cx p s m args c cc nL own Ts D cl tys A) {n : Int} {v : Int32} (hd : decode cc pc = .ok (.bipush n, 2)) (hv : (Int8.ofInt n).toInt32 = v) (kk : zW p l e R s m args below meth c D cl A nL cells slots Q ws (pc + 2) lv (.int v :: st)) : zW p l e R s m args below meth c D cl A nL cells slots Q ws pc lv st := fun H locs ls hP hD hS h => lv_bipush K.1.1 K.1.2.1 hd hv (kk H locs ls hP hD hS h)
theorem z_sipush (K : Cx p s m args c cc nL own Ts D cl tys A) {n : Int} {v : Int32} (hd : decode cc pc = .ok (.sipush n, 3)) (hv : (Int16.ofInt n).toInt32 = v) (kk : zW p l e R s m args below meth c D cl A nL cells slots Q ws (pc + 3) lv (.int v :: st)) : zW p l e R s m args below meth c D cl A nL cells slots Q ws pc lv st := fun H locs ls hP hD hS h => lv_sipush K.1.1 K.1.2.1 hd hv (kk H locs ls hP hD hS h)
theorem z_lconst (K : Cx p s m args c cc nL own Ts D cl tys A) {n : Fin 2} {v : Int64} (hd : decode cc pc = .ok (.lconst n, 1)) (hv : Int64.ofNat (n : Nat) = v) (kk : zW p l e R s m args below meth c D cl A nL cells slots Q ws (pc + 1) lv (.long v :: st)) : zW p l e R s m args below meth c D cl A nL cells slots Q ws pc lv st := fun H locs ls hP hD hS h => lv_lconst K.1.1 K.1.2.1 hd hv (kk H locs ls hP hD hS h)
theorem z_ldc (K : Cx p s m args c cc nL own Ts D cl tys A) {index : Nat} {v : Int32} (hc : Cond.constant own index v ∈ Ts) (hd : decode cc pc = .ok (.ldc index, 2)) (kk : zW p l e R s m args below meth c D cl A nL cells slots Q ws (pc + 2) lv (.int v :: st)) : zW p l e R s m args below meth c D cl A nL cells slots Q ws pc lv st := fun H locs ls hP hD hS h => lv_ldc K.1.1 K.1.2.1 K.1.2.2.2.1 (K.1.2.2.2.2 _ hc) hd (kk H locs ls hP hD hS h)
theorem z_ldcw (K : Cx p s m args c cc nL own Ts D cl tys A) {index : Nat} {v : Int32} (hc : Cond.constant own index v ∈ Ts) (hd : decode cc pc = .ok (.ldc_w index, 3)) (kk : zW p l e R s m args below meth c D cl A nL cells slots Q ws (pc + 3) lv (.int v :: st)) : zW p l e R s m args below meth c D cl A nL cells slots Q ws pc lv st := fun H locs ls hP hD hS h => lv_ldcw K.1.1 K.1.2.1 K.1.2.2.2.1 (K.1.2.2.2.2 _ hc) hd (kk H locs ls hP hD hS h)
theorem z_ldc2 (K : Cx p s m args c cc nL own Ts D cl tys A) {index : Nat} {v : Int64} (hc : Cond.constantLong own index v ∈ Ts) (hd : decode cc pc = .ok (.ldc2_w index, 3)) (kk : zW p l e R s m args below meth c D cl A nL cells slots Q ws (pc + 3) lv (.long v :: st)) : zW p l e R s m args below meth c D cl A nL cells slots Q ws pc lv st := fun H locs ls hP hD hS h => lv_ldc2 K.1.1 K.1.2.1 K.1.2.2.2.1 (K.1.2.2.2.2 _ hc) hd (kk H locs ls hP hD hS h)
theorem z_iload_n (K : Cx p s m args c cc nL own Ts D cl tys A) {k : Fin 4} {x : Int32} (hd : decode cc pc = .ok (.iload_n k, 1)) (hl : zl lv k.val = some (.int x)) (kk : zW p l e R s m args below meth c D cl A nL cells slots Q ws (pc + 1) lv (.int x :: st)) : zW p l e R s m args below meth c D cl A nL cells slots Q ws pc lv st := fun H locs ls hP hD hS h => lv_iload_n K.1.1 K.1.2.1 hd rfl (zl_at h hl) (kk H locs ls hP hD hS h)
theorem z_iload (K : Cx p s m args c cc nL own Ts D cl tys A) {i : Nat} {x : Int32} (hd : decode cc pc = .ok (.iload i, 2)) (hl : zl lv i = some (.int x)) (kk : zW p l e R s m args below meth c D cl A nL cells slots Q ws (pc + 2) lv (.int x :: st)) : zW p l e R s m args below meth c D cl A nL cells slots Q ws pc lv st := fun H locs ls hP hD hS h => lv_iload K.1.1 K.1.2.1 hd (zl_at h hl) (kk H locs ls hP hD hS h)
theorem z_istore_n (K : Cx p s m args c cc nL own Ts D cl tys A) {k : Fin 4} {i : Nat} {x : Int32} {lv' : List (Nat × Value)} (hd : decode cc pc = .ok (.istore_n k, 1)) (hk : (k : Nat) = i) (hn : i < nL) (hl : (i, Value.int x) :: lv.filter (fun q => !(q.1 == i) && !(q.1 + 1 == i && q.2.category == 2)) = lv') (kk : zW p l e R s m args below meth c D cl A nL cells slots Q ws (pc + 1) lv' st) : zW p l e R s m args below meth c D cl A nL cells slots Q ws pc lv (.int x :: st) := fun H locs ls hP hD hS h => lv_istore_n K.1.1 K.1.2.1 hd hk h hn hl (fun ls h => kk H locs ls hP hD hS h)
theorem z_istore (K : Cx p s m args c cc nL own Ts D cl tys A) {i : Nat} {x : Int32} {lv' : List (Nat × Value)} (hd : decode cc pc = .ok (.istore i, 2)) (hn : i < nL) (hl : (i, Value.int x) :: lv.filter (fun q => !(q.1 == i) && !(q.1 + 1 == i && q.2.category == 2)) = lv') (kk : zW p l e R s m args below meth c D cl A nL cells slots Q ws (pc + 2) lv' st) : zW p l e R s m args below meth c D cl A nL cells slots Q ws pc lv (.int x :: st) := fun H locs ls hP hD hS h => lv_istore K.1.1 K.1.2.1 hd h hn hl (fun ls h => kk H locs ls hP hD hS h)
theorem z_lload_n (K : Cx p s m args c cc nL own Ts D cl tys A) {k : Fin 4} {x : Int64} (hd : decode cc pc = .ok (.lload_n k, 1)) (hl : zl lv k.val = some (.long x)) (kk : zW p l e R s m args below meth c D cl A nL cells slots Q ws (pc + 1) lv (.long x :: st)) : zW p l e R s m args below meth c D cl A nL cells slots Q ws pc lv st := fun H locs ls hP hD hS h => lv_lload_n K.1.1 K.1.2.1 hd rfl (zl_at h hl) (kk H locs ls hP hD hS h)
theorem z_lload (K : Cx p s m args c cc nL own Ts D cl tys A) {i : Nat} {x : Int64} (hd : decode cc pc = .ok (.lload i, 2)) (hl : zl lv i = some (.long x)) (kk : zW p l e R s m args below meth c D cl A nL cells slots Q ws (pc + 2) lv (.long x :: st)) : zW p l e R s m args below meth c D cl A nL cells slots Q ws pc lv st := fun H locs ls hP hD hS h => lv_lload K.1.1 K.1.2.1 hd (zl_at h hl) (kk H locs ls hP hD hS h)
theorem z_lstore_n (K : Cx p s m args c cc nL own Ts D cl tys A) {k : Fin 4} {i : Nat} {x : Int64} {lv' : List (Nat × Value)} (hd : decode cc pc = .ok (.lstore_n k, 1)) (hk : (k : Nat) = i) (hn : i + 1 < nL) (hl : (i, Value.long x) :: lv.filter (fun q => !(q.1 == i) && (!(q.1 == i + 1) && !(q.1 + 1 == i && q.2.category == 2))) = lv') (kk : zW p l e R s m args below meth c D cl A nL cells slots Q ws (pc + 1) lv' st) : zW p l e R s m args below meth c D cl A nL cells slots Q ws pc lv (.long x :: st) := fun H locs ls hP hD hS h => lv_lstore_n K.1.1 K.1.2.1 hd hk h hn hl (fun ls h => kk H locs ls hP hD hS h)
theorem z_lstore (K : Cx p s m args c cc nL own Ts D cl tys A) {i : Nat} {x : Int64} {lv' : List (Nat × Value)} (hd : decode cc pc = .ok (.lstore i, 2)) (hn : i + 1 < nL) (hl : (i, Value.long x) :: lv.filter (fun q => !(q.1 == i) && (!(q.1 == i + 1) && !(q.1 + 1 == i && q.2.category == 2))) = lv') (kk : zW p l e R s m args below meth c D cl A nL cells slots Q ws (pc + 2) lv' st) : zW p l e R s m args below meth c D cl A nL cells slots Q ws pc lv (.long x :: st) := fun H locs ls hP hD hS h => lv_lstore K.1.1 K.1.2.1 hd h hn hl (fun ls h => kk H locs ls hP hD hS h)
theorem z_aload_n (K : Cx p s m args c cc nL own Ts D cl tys A) {k : Fin 4} {x : Nat} (hd : decode cc pc = .ok (.aload_n k, 1)) (hl : zl lv k.val = some (.ref x)) (kk : zW p l e R s m args below meth c D cl A nL cells slots Q ws (pc + 1) lv (.ref x :: st)) : zW p l e R s m args below meth c D cl A nL cells slots Q ws pc lv st := fun H locs ls hP hD hS h => lv_aload_n K.1.1 K.1.2.1 hd rfl (zl_at h hl) (kk H locs ls hP hD hS h)
theorem z_aload (K : Cx p s m args c cc nL own Ts D cl tys A) {i : Nat} {x : Nat} (hd : decode cc pc = .ok (.aload i, 2)) (hl : zl lv i = some (.ref x)) (kk : zW p l e R s m args below meth c D cl A nL cells slots Q ws (pc + 2) lv (.ref x :: st)) : zW p l e R s m args below meth c D cl A nL cells slots Q ws pc lv st := fun H locs ls hP hD hS h => lv_aload K.1.1 K.1.2.1 hd (zl_at h hl) (kk H locs ls hP hD hS h)
theorem z_astore_n (K : Cx p s m args c cc nL own Ts D cl tys A) {k : Fin 4} {i : Nat} {x : Nat} {lv' : List (Nat × Value)} (hd : decode cc pc = .ok (.astore_n k, 1)) (hk : (k : Nat) = i) (hn : i < nL) (hl : (i, Value.ref x) :: lv.filter (fun q => !(q.1 == i) && !(q.1 + 1 == i && q.2.category == 2)) = lv') (kk : zW p l e R s m args below meth c D cl A nL cells slots Q ws (pc + 1) lv' st) : zW p l e R s m args below meth c D cl A nL cells slots Q ws pc lv (.ref x :: st) := fun H locs ls hP hD hS h => lv_astore_n K.1.1 K.1.2.1 hd hk h hn hl (fun ls h => kk H locs ls hP hD hS h)
theorem z_astore (K : Cx p s m args c cc nL own Ts D cl tys A) {i : Nat} {x : Nat} {lv' : List (Nat × Value)} (hd : decode cc pc = .ok (.astore i, 2)) (hn : i < nL) (hl : (i, Value.ref x) :: lv.filter (fun q => !(q.1 == i) && !(q.1 + 1 == i && q.2.category == 2)) = lv') (kk : zW p l e R s m args below meth c D cl A nL cells slots Q ws (pc + 2) lv' st) : zW p l e R s m args below meth c D cl A nL cells slots Q ws pc lv (.ref x :: st) := fun H locs ls hP hD hS h => lv_astore K.1.1 K.1.2.1 hd h hn hl (fun ls h => kk H locs ls hP hD hS h)
theorem z_iinc (K : Cx p s m args c cc nL own Ts D cl tys A) {i : Nat} {n : Int} {x v : Int32} {lv' : List (Nat × Value)} (hd : decode cc pc = .ok (.iinc i n, 3)) (k : Nat) (hk : lv[k]? = some (i, .int x)) (hv : x + Int32.ofInt n = v) (hn : i < nL) (hl : (i, Value.int v) :: lv.filter (fun q => !(q.1 == i) && !(q.1 + 1 == i && q.2.category == 2)) = lv') (kk : zW p l e R s m args below meth c D cl A nL cells slots Q ws (pc + 3) lv' st) : zW p l e R s m args below meth c D cl A nL cells slots Q ws pc lv st := fun H locs ls hP hD hS h => lv_iinc K.1.1 K.1.2.1 hd h (k := k) hk hv hn hl (fun ls h => kk H locs ls hP hD hS h)
theorem z_iadd (K : Cx p s m args c cc nL own Ts D cl tys A) {x y : Int32} (hd : decode cc pc = .ok (.iadd, 1)) (kk : zW p l e R s m args below meth c D cl A nL cells slots Q ws (pc + 1) lv (.int (x + y) :: st)) : zW p l e R s m args below meth c D cl A nL cells slots Q ws pc lv (.int y :: .int x :: st) := fun H locs ls hP hD hS h => lv_iadd K.1.1 K.1.2.1 hd (kk H locs ls hP hD hS h)
theorem z_isub (K : Cx p s m args c cc nL own Ts D cl tys A) {x y : Int32} (hd : decode cc pc = .ok (.isub, 1)) (kk : zW p l e R s m args below meth c D cl A nL cells slots Q ws (pc + 1) lv (.int (x - y) :: st)) : zW p l e R s m args below meth c D cl A nL cells slots Q ws pc lv (.int y :: .int x :: st) := fun H locs ls hP hD hS h => lv_isub K.1.1 K.1.2.1 hd (kk H locs ls hP hD hS h)
theorem z_imul (K : Cx p s m args c cc nL own Ts D cl tys A) {x y : Int32} (hd : decode cc pc = .ok (.imul, 1)) (kk : zW p l e R s m args below meth c D cl A nL cells slots Q ws (pc + 1) lv (.int (x * y) :: st)) : zW p l e R s m args below meth c D cl A nL cells slots Q ws pc lv (.int y :: .int x :: st) := fun H locs ls hP hD hS h => lv_imul K.1.1 K.1.2.1 hd (kk H locs ls hP hD hS h)
theorem z_iand (K : Cx p s m args c cc nL own Ts D cl tys A) {x y : Int32} (hd : decode cc pc = .ok (.iand, 1)) (kk : zW p l e R s m args below meth c D cl A nL cells slots Q ws (pc + 1) lv (.int (x &&& y) :: st)) : zW p l e R s m args below meth c D cl A nL cells slots Q ws pc lv (.int y :: .int x :: st) := fun H locs ls hP hD hS h => lv_iand K.1.1 K.1.2.1 hd (kk H locs ls hP hD hS h)
theorem z_ior (K : Cx p s m args c cc nL own Ts D cl tys A) {x y : Int32} (hd : decode cc pc = .ok (.ior, 1)) (kk : zW p l e R s m args below meth c D cl A nL cells slots Q ws (pc + 1) lv (.int (x ||| y) :: st)) : zW p l e R s m args below meth c D cl A nL cells slots Q ws pc lv (.int y :: .int x :: st) := fun H locs ls hP hD hS h => lv_ior K.1.1 K.1.2.1 hd (kk H locs ls hP hD hS h)
theorem z_ixor (K : Cx p s m args c cc nL own Ts D cl tys A) {x y : Int32} (hd : decode cc pc = .ok (.ixor, 1)) (kk : zW p l e R s m args below meth c D cl A nL cells slots Q ws (pc + 1) lv (.int (x ^^^ y) :: st)) : zW p l e R s m args below meth c D cl A nL cells slots Q ws pc lv (.int y :: .int x :: st) := fun H locs ls hP hD hS h => lv_ixor K.1.1 K.1.2.1 hd (kk H locs ls hP hD hS h)
theorem z_ishl (K : Cx p s m args c cc nL own Ts D cl tys A) {x y : Int32} (hd : decode cc pc = .ok (.ishl, 1)) (kk : zW p l e R s m args below meth c D cl A nL cells slots Q ws (pc + 1) lv (.int (x <<< (y &&& 31)) :: st)) : zW p l e R s m args below meth c D cl A nL cells slots Q ws pc lv (.int y :: .int x :: st) := fun H locs ls hP hD hS h => lv_ishl K.1.1 K.1.2.1 hd (kk H locs ls hP hD hS h)
theorem z_ishr (K : Cx p s m args c cc nL own Ts D cl tys A) {x y : Int32} (hd : decode cc pc = .ok (.ishr, 1)) (kk : zW p l e R s m args below meth c D cl A nL cells slots Q ws (pc + 1) lv (.int (x >>> (y &&& 31)) :: st)) : zW p l e R s m args below meth c D cl A nL cells slots Q ws pc lv (.int y :: .int x :: st) := fun H locs ls hP hD hS h => lv_ishr K.1.1 K.1.2.1 hd (kk H locs ls hP hD hS h)
theorem z_idiv (K : Cx p s m args c cc nL own Ts D cl tys A) {x y : Int32} (hd : decode cc pc = .ok (.idiv, 1)) (hne : ¬ y = 0) (kk : zW p l e R s m args below meth c D cl A nL cells slots Q ws (pc + 1) lv (.int (x / y) :: st)) : zW p l e R s m args below meth c D cl A nL cells slots Q ws pc lv (.int y :: .int x :: st) := fun H locs ls hP hD hS h => lv_idiv K.1.1 K.1.2.1 hd hne (kk H locs ls hP hD hS h)
theorem z_irem (K : Cx p s m args c cc nL own Ts D cl tys A) {x y : Int32} (hd : decode cc pc = .ok (.irem, 1)) (hne : ¬ y = 0) (kk : zW p l e R s m args below meth c D cl A nL cells slots Q ws (pc + 1) lv (.int (x - x / y * y) :: st)) : zW p l e R s m args below meth c D cl A nL cells slots Q ws pc lv (.int y :: .int x :: st) := fun H locs ls hP hD hS h => lv_irem K.1.1 K.1.2.1 hd hne (kk H locs ls hP hD hS h)
theorem z_ineg (K : Cx p s m args c cc nL own Ts D cl tys A) {x : Int32} (hd : decode cc pc = .ok (.ineg, 1)) (kk : zW p l e R s m args below meth c D cl A nL cells slots Q ws (pc + 1) lv (.int (-x) :: st)) : zW p l e R s m args below meth c D cl A nL cells slots Q ws pc lv (.int x :: st) := fun H locs ls hP hD hS h => lv_ineg K.1.1 K.1.2.1 hd (kk H locs ls hP hD hS h)
theorem z_ladd (K : Cx p s m args c cc nL own Ts D cl tys A) {x y : Int64} (hd : decode cc pc = .ok (.ladd, 1)) (kk : zW p l e R s m args below meth c D cl A nL cells slots Q ws (pc + 1) lv (.long (x + y) :: st)) : zW p l e R s m args below meth c D cl A nL cells slots Q ws pc lv (.long y :: .long x :: st) := fun H locs ls hP hD hS h => lv_ladd K.1.1 K.1.2.1 hd (kk H locs ls hP hD hS h)
theorem z_lsub (K : Cx p s m args c cc nL own Ts D cl tys A) {x y : Int64} (hd : decode cc pc = .ok (.lsub, 1)) (kk : zW p l e R s m args below meth c D cl A nL cells slots Q ws (pc + 1) lv (.long (x - y) :: st)) : zW p l e R s m args below meth c D cl A nL cells slots Q ws pc lv (.long y :: .long x :: st) := fun H locs ls hP hD hS h => lv_lsub K.1.1 K.1.2.1 hd (kk H locs ls hP hD hS h)
theorem z_lmul (K : Cx p s m args c cc nL own Ts D cl tys A) {x y : Int64} (hd : decode cc pc = .ok (.lmul, 1)) (kk : zW p l e R s m args below meth c D cl A nL cells slots Q ws (pc + 1) lv (.long (x * y) :: st)) : zW p l e R s m args below meth c D cl A nL cells slots Q ws pc lv (.long y :: .long x :: st) := fun H locs ls hP hD hS h => lv_lmul K.1.1 K.1.2.1 hd (kk H locs ls hP hD hS h)
theorem z_land (K : Cx p s m args c cc nL own Ts D cl tys A) {x y : Int64} (hd : decode cc pc = .ok (.land, 1)) (kk : zW p l e R s m args below meth c D cl A nL cells slots Q ws (pc + 1) lv (.long (x &&& y) :: st)) : zW p l e R s m args below meth c D cl A nL cells slots Q ws pc lv (.long y :: .long x :: st) := fun H locs ls hP hD hS h => lv_land K.1.1 K.1.2.1 hd (kk H locs ls hP hD hS h)
theorem z_lor (K : Cx p s m args c cc nL own Ts D cl tys A) {x y : Int64} (hd : decode cc pc = .ok (.lor, 1)) (kk : zW p l e R s m args below meth c D cl A nL cells slots Q ws (pc + 1) lv (.long (x ||| y) :: st)) : zW p l e R s m args below meth c D cl A nL cells slots Q ws pc lv (.long y :: .long x :: st) := fun H locs ls hP hD hS h => lv_lor K.1.1 K.1.2.1 hd (kk H locs ls hP hD hS h)
theorem z_lxor (K : Cx p s m args c cc nL own Ts D cl tys A) {x y : Int64} (hd : decode cc pc = .ok (.lxor, 1)) (kk : zW p l e R s m args below meth c D cl A nL cells slots Q ws (pc + 1) lv (.long (x ^^^ y) :: st)) : zW p l e R s m args below meth c D cl A nL cells slots Q ws pc lv (.long y :: .long x :: st) := fun H locs ls hP hD hS h => lv_lxor K.1.1 K.1.2.1 hd (kk H locs ls hP hD hS h)
theorem z_i2l (K : Cx p s m args c cc nL own Ts D cl tys A) {x : Int32} (hd : decode cc pc = .ok (.i2l, 1)) (kk : zW p l e R s m args below meth c D cl A nL cells slots Q ws (pc + 1) lv (.long x.toInt64 :: st)) : zW p l e R s m args below meth c D cl A nL cells slots Q ws pc lv (.int x :: st) := fun H locs ls hP hD hS h => lv_i2l K.1.1 K.1.2.1 hd rfl (kk H locs ls hP hD hS h)
theorem z_l2i (K : Cx p s m args c cc nL own Ts D cl tys A) {x : Int64} (hd : decode cc pc = .ok (.l2i, 1)) (kk : zW p l e R s m args below meth c D cl A nL cells slots Q ws (pc + 1) lv (.int x.toInt32 :: st)) : zW p l e R s m args below meth c D cl A nL cells slots Q ws pc lv (.long x :: st) := fun H locs ls hP hD hS h => lv_l2i K.1.1 K.1.2.1 hd rfl (kk H locs ls hP hD hS h)
theorem z_i2c (K : Cx p s m args c cc nL own Ts D cl tys A) {x : Int32} (hd : decode cc pc = .ok (.i2c, 1)) (kk : zW p l e R s m args below meth c D cl A nL cells slots Q ws (pc + 1) lv (.int (x.toUInt32 % 65536).toInt32 :: st)) : zW p l e R s m args below meth c D cl A nL cells slots Q ws pc lv (.int x :: st) := fun H locs ls hP hD hS h => lv_i2c K.1.1 K.1.2.1 hd rfl (kk H locs ls hP hD hS h)
theorem z_i2b (K : Cx p s m args c cc nL own Ts D cl tys A) {x : Int32} (hd : decode cc pc = .ok (.i2b, 1)) (kk : zW p l e R s m args below meth c D cl A nL cells slots Q ws (pc + 1) lv (.int x.toInt8.toInt32 :: st)) : zW p l e R s m args below meth c D cl A nL cells slots Q ws pc lv (.int x :: st) := fun H locs ls hP hD hS h => lv_i2b K.1.1 K.1.2.1 hd rfl (kk H locs ls hP hD hS h)
theorem z_iushr (K : Cx p s m args c cc nL own Ts D cl tys A) {x y : Int32} (hd : decode cc pc = .ok (.iushr, 1)) (kk : zW p l e R s m args below meth c D cl A nL cells slots Q ws (pc + 1) lv (.int (x.toUInt32 >>> (y.toUInt32 &&& Int32.toUInt32 31)).toInt32 :: st)) : zW p l e R s m args below meth c D cl A nL cells slots Q ws pc lv (.int y :: .int x :: st) := fun H locs ls hP hD hS h => lv_iushr K.1.1 K.1.2.1 hd rfl (kk H locs ls hP hD hS h)
theorem z_lushr (K : Cx p s m args c cc nL own Ts D cl tys A) {x : Int64} {y : Int32} (hd : decode cc pc = .ok (.lushr, 1)) (kk : zW p l e R s m args below meth c D cl A nL cells slots Q ws (pc + 1) lv (.long (x.toUInt64 >>> (y.toInt64.toUInt64 &&& Int64.toUInt64 63)).toInt64 :: st)) : zW p l e R s m args below meth c D cl A nL cells slots Q ws pc lv (.int y :: .long x :: st) := fun H locs ls hP hD hS h => lv_lushr K.1.1 K.1.2.1 hd rfl (kk H locs ls hP hD hS h)
theorem z_lshl (K : Cx p s m args c cc nL own Ts D cl tys A) {x : Int64} {y : Int32} (hd : decode cc pc = .ok (.lshl, 1)) (kk : zW p l e R s m args below meth c D cl A nL cells slots Q ws (pc + 1) lv (.long (x <<< (y.toInt64 &&& 63)) :: st)) : zW p l e R s m args below meth c D cl A nL cells slots Q ws pc lv (.int y :: .long x :: st) := fun H locs ls hP hD hS h => lv_lshl K.1.1 K.1.2.1 hd rfl (kk H locs ls hP hD hS h)
theorem z_lshr (K : Cx p s m args c cc nL own Ts D cl tys A) {x : Int64} {y : Int32} (hd : decode cc pc = .ok (.lshr, 1)) (kk : zW p l e R s m args below meth c D cl A nL cells slots Q ws (pc + 1) lv (.long (x >>> (y.toInt64 &&& 63)) :: st)) : zW p l e R s m args below meth c D cl A nL cells slots Q ws pc lv (.int y :: .long x :: st) := fun H locs ls hP hD hS h => lv_lshr K.1.1 K.1.2.1 hd rfl (kk H locs ls hP hD hS h)
theorem z_lcmp (K : Cx p s m args c cc nL own Ts D cl tys A) {x y : Int64} (hd : decode cc pc = .ok (.lcmp, 1)) (kk : zW p l e R s m args below meth c D cl A nL cells slots Q ws (pc + 1) lv (.int (lg_cmp x y) :: st)) : zW p l e R s m args below meth c D cl A nL cells slots Q ws pc lv (.long y :: .long x :: st) := fun H locs ls hP hD hS h => W.lcmp K.1.1 K.1.2.1 hd (kk H locs ls hP hD hS h)
theorem z_dup (K : Cx p s m args c cc nL own Ts D cl tys A) {v : Value} (hd : decode cc pc = .ok (.dup, 1)) (hc : v.category = 1) (kk : zW p l e R s m args below meth c D cl A nL cells slots Q ws (pc + 1) lv (v :: v :: st)) : zW p l e R s m args below meth c D cl A nL cells slots Q ws pc lv (v :: st) := fun H locs ls hP hD hS h => lv_dup K.1.1 K.1.2.1 hd hc (kk H locs ls hP hD hS h)
theorem z_pop (K : Cx p s m args c cc nL own Ts D cl tys A) {v : Value} (hd : decode cc pc = .ok (.pop, 1)) (hc : v.category = 1) (kk : zW p l e R s m args below meth c D cl A nL cells slots Q ws (pc + 1) lv st) : zW p l e R s m args below meth c D cl A nL cells slots Q ws pc lv (v :: st) := fun H locs ls hP hD hS h => lv_pop K.1.1 K.1.2.1 hd hc (kk H locs ls hP hD hS h)
theorem z_pop2 (K : Cx p s m args c cc nL own Ts D cl tys A) {v : Value} (hd : decode cc pc = .ok (.pop2, 1)) (hc : v.category = 2) (kk : zW p l e R s m args below meth c D cl A nL cells slots Q ws (pc + 1) lv st) : zW p l e R s m args below meth c D cl A nL cells slots Q ws pc lv (v :: st) := fun H locs ls hP hD hS h => lv_pop2_2 K.1.1 K.1.2.1 hd hc (kk H locs ls hP hD hS h)
theorem z_dup_x1 (K : Cx p s m args c cc nL own Ts D cl tys A) {v w : Value} (hd : decode cc pc = .ok (.dup_x1, 1)) (hc : v.category = 1) (hc2 : w.category = 1) (kk : zW p l e R s m args below meth c D cl A nL cells slots Q ws (pc + 1) lv (v :: w :: v :: st)) : zW p l e R s m args below meth c D cl A nL cells slots Q ws pc lv (v :: w :: st) := fun H locs ls hP hD hS h => lv_dup_x1 K.1.1 K.1.2.1 hd hc hc2 (kk H locs ls hP hD hS h)
theorem z_dup_x2 (K : Cx p s m args c cc nL own Ts D cl tys A) {v w x : Value} (hd : decode cc pc = .ok (.dup_x2, 1)) (hc : v.category = 1) (hc2 : w.category = 1) (hc3 : x.category = 1) (kk : zW p l e R s m args below meth c D cl A nL cells slots Q ws (pc + 1) lv (v :: w :: x :: v :: st)) : zW p l e R s m args below meth c D cl A nL cells slots Q ws pc lv (v :: w :: x :: st) := fun H locs ls hP hD hS h => lv_dup_x2 K.1.1 K.1.2.1 hd hc hc2 hc3 (kk H locs ls hP hD hS h)
theorem z_dup2 (K : Cx p s m args c cc nL own Ts D cl tys A) {v w : Value} (hd : decode cc pc = .ok (.dup2, 1)) (hc : v.category = 1) (hc2 : w.category = 1) (kk : zW p l e R s m args below meth c D cl A nL cells slots Q ws (pc + 1) lv (v :: w :: v :: w :: st)) : zW p l e R s m args below meth c D cl A nL cells slots Q ws pc lv (v :: w :: st) := fun H locs ls hP hD hS h => lv_dup2_11 K.1.1 K.1.2.1 hd hc hc2 (kk H locs ls hP hD hS h)
theorem z_dup2L (K : Cx p s m args c cc nL own Ts D cl tys A) {v : Value} (hd : decode cc pc = .ok (.dup2, 1)) (hc : v.category = 2) (kk : zW p l e R s m args below meth c D cl A nL cells slots Q ws (pc + 1) lv (v :: v :: st)) : zW p l e R s m args below meth c D cl A nL cells slots Q ws pc lv (v :: st) := fun H locs ls hP hD hS h => lv_dup2_2 K.1.1 K.1.2.1 hd hc (kk H locs ls hP hD hS h)
theorem z_dup2_x1 (K : Cx p s m args c cc nL own Ts D cl tys A) {v w : Value} (hd : decode cc pc = .ok (.dup2_x1, 1)) (hc : v.category = 2) (hc2 : w.category = 1) (kk : zW p l e R s m args below meth c D cl A nL cells slots Q ws (pc + 1) lv (v :: w :: v :: st)) : zW p l e R s m args below meth c D cl A nL cells slots Q ws pc lv (v :: w :: st) := fun H locs ls hP hD hS h => lv_dup2_x1_2 K.1.1 K.1.2.1 hd hc hc2 (kk H locs ls hP hD hS h)
theorem z_dup2_x2 (K : Cx p s m args c cc nL own Ts D cl tys A) {v w x : Value} (hd : decode cc pc = .ok (.dup2_x2, 1)) (hc : v.category = 2) (hc2 : w.category = 1) (hc3 : x.category = 1) (kk : zW p l e R s m args below meth c D cl A nL cells slots Q ws (pc + 1) lv (v :: w :: x :: v :: st)) : zW p l e R s m args below meth c D cl A nL cells slots Q ws pc lv (v :: w :: x :: st) := fun H locs ls hP hD hS h => lv_dup2_x2_2 K.1.1 K.1.2.1 hd hc hc2 hc3 (kk H locs ls hP hD hS h)
theorem z_if_eq (K : Cx p s m args c cc nL own Ts D cl tys A) {x : Int32} {off : Int} {tgt : Nat} (hd : decode cc pc = .ok (.ifCond .eq off, 3)) (ht : (pc : Int) + off = (tgt : Int)) (kt : x = 0 → zW p l e R s m args below meth c D cl A nL cells slots Q ws tgt lv st) (kf : ¬ x = 0 → zW p l e R s m args below meth c D cl A nL cells slots Q ws (pc + 3) lv st) : zW p l e R s m args below meth c D cl A nL cells slots Q ws pc lv (.int x :: st) := fun H locs ls hP hD hS h => lv_if_eq K.1.1 K.1.2.1 hd ht (fun g => kt g H locs ls hP hD hS h) (fun g => kf g H locs ls hP hD hS h)
theorem z_icmp_eq (K : Cx p s m args c cc nL own Ts D cl tys A) {x y : Int32} {off : Int} {tgt : Nat} (hd : decode cc pc = .ok (.if_icmp .eq off, 3)) (ht : (pc : Int) + off = (tgt : Int)) (kt : x = y → zW p l e R s m args below meth c D cl A nL cells slots Q ws tgt lv st) (kf : ¬ x = y → zW p l e R s m args below meth c D cl A nL cells slots Q ws (pc + 3) lv st) : zW p l e R s m args below meth c D cl A nL cells slots Q ws pc lv (.int y :: .int x :: st) := fun H locs ls hP hD hS h => lv_icmp_eq K.1.1 K.1.2.1 hd ht (fun g => kt g H locs ls hP hD hS h) (fun g => kf g H locs ls hP hD hS h)
theorem z_if_ne (K : Cx p s m args c cc nL own Ts D cl tys A) {x : Int32} {off : Int} {tgt : Nat} (hd : decode cc pc = .ok (.ifCond .ne off, 3)) (ht : (pc : Int) + off = (tgt : Int)) (kt : ¬ x = 0 → zW p l e R s m args below meth c D cl A nL cells slots Q ws tgt lv st) (kf : x = 0 → zW p l e R s m args below meth c D cl A nL cells slots Q ws (pc + 3) lv st) : zW p l e R s m args below meth c D cl A nL cells slots Q ws pc lv (.int x :: st) := fun H locs ls hP hD hS h => lv_if_ne K.1.1 K.1.2.1 hd ht (fun g => kt g H locs ls hP hD hS h) (fun g => kf g H locs ls hP hD hS h)
theorem z_icmp_ne (K : Cx p s m args c cc nL own Ts D cl tys A) {x y : Int32} {off : Int} {tgt : Nat} (hd : decode cc pc = .ok (.if_icmp .ne off, 3)) (ht : (pc : Int) + off = (tgt : Int)) (kt : ¬ x = y → zW p l e R s m args below meth c D cl A nL cells slots Q ws tgt lv st) (kf : x = y → zW p l e R s m args below meth c D cl A nL cells slots Q ws (pc + 3) lv st) : zW p l e R s m args below meth c D cl A nL cells slots Q ws pc lv (.int y :: .int x :: st) := fun H locs ls hP hD hS h => lv_icmp_ne K.1.1 K.1.2.1 hd ht (fun g => kt g H locs ls hP hD hS h) (fun g => kf g H locs ls hP hD hS h)
theorem z_if_lt (K : Cx p s m args c cc nL own Ts D cl tys A) {x : Int32} {off : Int} {tgt : Nat} (hd : decode cc pc = .ok (.ifCond .lt off, 3)) (ht : (pc : Int) + off = (tgt : Int)) (kt : x < 0 → zW p l e R s m args below meth c D cl A nL cells slots Q ws tgt lv st) (kf : ¬ x < 0 → zW p l e R s m args below meth c D cl A nL cells slots Q ws (pc + 3) lv st) : zW p l e R s m args below meth c D cl A nL cells slots Q ws pc lv (.int x :: st) := fun H locs ls hP hD hS h => lv_if_lt K.1.1 K.1.2.1 hd ht (fun g => kt g H locs ls hP hD hS h) (fun g => kf g H locs ls hP hD hS h)
theorem z_icmp_lt (K : Cx p s m args c cc nL own Ts D cl tys A) {x y : Int32} {off : Int} {tgt : Nat} (hd : decode cc pc = .ok (.if_icmp .lt off, 3)) (ht : (pc : Int) + off = (tgt : Int)) (kt : x < y → zW p l e R s m args below meth c D cl A nL cells slots Q ws tgt lv st) (kf : ¬ x < y → zW p l e R s m args below meth c D cl A nL cells slots Q ws (pc + 3) lv st) : zW p l e R s m args below meth c D cl A nL cells slots Q ws pc lv (.int y :: .int x :: st) := fun H locs ls hP hD hS h => lv_icmp_lt K.1.1 K.1.2.1 hd ht (fun g => kt g H locs ls hP hD hS h) (fun g => kf g H locs ls hP hD hS h)
theorem z_if_ge (K : Cx p s m args c cc nL own Ts D cl tys A) {x : Int32} {off : Int} {tgt : Nat} (hd : decode cc pc = .ok (.ifCond .ge off, 3)) (ht : (pc : Int) + off = (tgt : Int)) (kt : 0 ≤ x → zW p l e R s m args below meth c D cl A nL cells slots Q ws tgt lv st) (kf : ¬ 0 ≤ x → zW p l e R s m args below meth c D cl A nL cells slots Q ws (pc + 3) lv st) : zW p l e R s m args below meth c D cl A nL cells slots Q ws pc lv (.int x :: st) := fun H locs ls hP hD hS h => lv_if_ge K.1.1 K.1.2.1 hd ht (fun g => kt g H locs ls hP hD hS h) (fun g => kf g H locs ls hP hD hS h)
theorem z_icmp_ge (K : Cx p s m args c cc nL own Ts D cl tys A) {x y : Int32} {off : Int} {tgt : Nat} (hd : decode cc pc = .ok (.if_icmp .ge off, 3)) (ht : (pc : Int) + off = (tgt : Int)) (kt : y ≤ x → zW p l e R s m args below meth c D cl A nL cells slots Q ws tgt lv st) (kf : ¬ y ≤ x → zW p l e R s m args below meth c D cl A nL cells slots Q ws (pc + 3) lv st) : zW p l e R s m args below meth c D cl A nL cells slots Q ws pc lv (.int y :: .int x :: st) := fun H locs ls hP hD hS h => lv_icmp_ge K.1.1 K.1.2.1 hd ht (fun g => kt g H locs ls hP hD hS h) (fun g => kf g H locs ls hP hD hS h)
theorem z_if_gt (K : Cx p s m args c cc nL own Ts D cl tys A) {x : Int32} {off : Int} {tgt : Nat} (hd : decode cc pc = .ok (.ifCond .gt off, 3)) (ht : (pc : Int) + off = (tgt : Int)) (kt : 0 < x → zW p l e R s m args below meth c D cl A nL cells slots Q ws tgt lv st) (kf : ¬ 0 < x → zW p l e R s m args below meth c D cl A nL cells slots Q ws (pc + 3) lv st) : zW p l e R s m args below meth c D cl A nL cells slots Q ws pc lv (.int x :: st) := fun H locs ls hP hD hS h => lv_if_gt K.1.1 K.1.2.1 hd ht (fun g => kt g H locs ls hP hD hS h) (fun g => kf g H locs ls hP hD hS h)
theorem z_icmp_gt (K : Cx p s m args c cc nL own Ts D cl tys A) {x y : Int32} {off : Int} {tgt : Nat} (hd : decode cc pc = .ok (.if_icmp .gt off, 3)) (ht : (pc : Int) + off = (tgt : Int)) (kt : y < x → zW p l e R s m args below meth c D cl A nL cells slots Q ws tgt lv st) (kf : ¬ y < x → zW p l e R s m args below meth c D cl A nL cells slots Q ws (pc + 3) lv st) : zW p l e R s m args below meth c D cl A nL cells slots Q ws pc lv (.int y :: .int x :: st) := fun H locs ls hP hD hS h => lv_icmp_gt K.1.1 K.1.2.1 hd ht (fun g => kt g H locs ls hP hD hS h) (fun g => kf g H locs ls hP hD hS h)
theorem z_if_le (K : Cx p s m args c cc nL own Ts D cl tys A) {x : Int32} {off : Int} {tgt : Nat} (hd : decode cc pc = .ok (.ifCond .le off, 3)) (ht : (pc : Int) + off = (tgt : Int)) (kt : x ≤ 0 → zW p l e R s m args below meth c D cl A nL cells slots Q ws tgt lv st) (kf : ¬ x ≤ 0 → zW p l e R s m args below meth c D cl A nL cells slots Q ws (pc + 3) lv st) : zW p l e R s m args below meth c D cl A nL cells slots Q ws pc lv (.int x :: st) := fun H locs ls hP hD hS h => lv_if_le K.1.1 K.1.2.1 hd ht (fun g => kt g H locs ls hP hD hS h) (fun g => kf g H locs ls hP hD hS h)
theorem z_icmp_le (K : Cx p s m args c cc nL own Ts D cl tys A) {x y : Int32} {off : Int} {tgt : Nat} (hd : decode cc pc = .ok (.if_icmp .le off, 3)) (ht : (pc : Int) + off = (tgt : Int)) (kt : x ≤ y → zW p l e R s m args below meth c D cl A nL cells slots Q ws tgt lv st) (kf : ¬ x ≤ y → zW p l e R s m args below meth c D cl A nL cells slots Q ws (pc + 3) lv st) : zW p l e R s m args below meth c D cl A nL cells slots Q ws pc lv (.int y :: .int x :: st) := fun H locs ls hP hD hS h => lv_icmp_le K.1.1 K.1.2.1 hd ht (fun g => kt g H locs ls hP hD hS h) (fun g => kf g H locs ls hP hD hS h)
theorem z_ifb_eq (K : Cx p s m args c cc nL own Ts D cl tys A) {b : Bool} {off : Int} {tgt : Nat} (hd : decode cc pc = .ok (.ifCond .eq off, 3)) (ht : (pc : Int) + off = (tgt : Int)) (kt : b = false → zW p l e R s m args below meth c D cl A nL cells slots Q ws tgt lv st) (kf : b = true → zW p l e R s m args below meth c D cl A nL cells slots Q ws (pc + 3) lv st) : zW p l e R s m args below meth c D cl A nL cells slots Q ws pc lv (.int (bI b) :: st) := z_if_eq K hd ht (fun g => kt (bI_0.mp g)) (fun g => kf (by cases b with | true => rfl | false => exact absurd rfl g))
theorem z_ifb_ne (K : Cx p s m args c cc nL own Ts D cl tys A) {b : Bool} {off : Int} {tgt : Nat} (hd : decode cc pc = .ok (.ifCond .ne off, 3)) (ht : (pc : Int) + off = (tgt : Int)) (kt : b = true → zW p l e R s m args below meth c D cl A nL cells slots Q ws tgt lv st) (kf : b = false → zW p l e R s m args below meth c D cl A nL cells slots Q ws (pc + 3) lv st) : zW p l e R s m args below meth c D cl A nL cells slots Q ws pc lv (.int (bI b) :: st) := z_if_ne K hd ht (fun g => kt (by cases b with | true => rfl | false => exact absurd rfl g)) (fun g => kf (bI_0.mp g))
theorem z_ifl_eq (K : Cx p s m args c cc nL own Ts D cl tys A) {x y : Int64} {off : Int} {tgt : Nat} (hd : decode cc pc = .ok (.ifCond .eq off, 3)) (ht : (pc : Int) + off = (tgt : Int)) (kt : x = y → zW p l e R s m args below meth c D cl A nL cells slots Q ws tgt lv st) (kf : ¬ x = y → zW p l e R s m args below meth c D cl A nL cells slots Q ws (pc + 3) lv st) : zW p l e R s m args below meth c D cl A nL cells slots Q ws pc lv (.int (lg_cmp x y) :: st) := z_if_eq K hd ht (fun g => kt ((lg_cmp_eq _ _).mp g)) (fun g => kf (fun q => g ((lg_cmp_eq _ _).mpr q)))
theorem z_ifl_ne (K : Cx p s m args c cc nL own Ts D cl tys A) {x y : Int64} {off : Int} {tgt : Nat} (hd : decode cc pc = .ok (.ifCond .ne off, 3)) (ht : (pc : Int) + off = (tgt : Int)) (kt : ¬ x = y → zW p l e R s m args below meth c D cl A nL cells slots Q ws tgt lv st) (kf : x = y → zW p l e R s m args below meth c D cl A nL cells slots Q ws (pc + 3) lv st) : zW p l e R s m args below meth c D cl A nL cells slots Q ws pc lv (.int (lg_cmp x y) :: st) := z_if_ne K hd ht (fun g => kt (fun q => g ((lg_cmp_eq _ _).mpr q))) (fun g => kf ((lg_cmp_eq _ _).mp g))
theorem z_goto (K : Cx p s m args c cc nL own Ts D cl tys A) {off : Int} {tgt : Nat} (hd : decode cc pc = .ok (.goto off, 3)) (ht : (pc : Int) + off = (tgt : Int)) (kk : zW p l e R s m args below meth c D cl A nL cells slots Q ws tgt lv st) : zW p l e R s m args below meth c D cl A nL cells slots Q ws pc lv st := fun H locs ls hP hD hS h => lv_goto K.1.1 K.1.2.1 hd ht (kk H locs ls hP hD hS h)
theorem z_tableOut (K : Cx p s m args c cc nL own Ts D cl tys A) {dflt lo hi : Int} {offs : Array Int} {len : Nat} {x : Int32} {tgt : Nat} (hd : decode cc pc = .ok (.tableswitch dflt lo hi offs, len)) (hr : x.toInt < lo ∨ hi < x.toInt) (ht : (pc : Int) + dflt = (tgt : Int)) (kk : zW p l e R s m args below meth c D cl A nL cells slots Q ws tgt lv st) : zW p l e R s m args below meth c D cl A nL cells slots Q ws pc lv (.int x :: st) := fun H locs ls hP hD hS h => lv_tableOut K.1.1 K.1.2.1 hd hr ht (kk H locs ls hP hD hS h)
theorem z_tableIn (K : Cx p s m args c cc nL own Ts D cl tys A) {dflt lo hi : Int} {offs : Array Int} {len : Nat} {x : Int32} {off : Int} {tgt : Nat} (hd : decode cc pc = .ok (.tableswitch dflt lo hi offs, len)) (h1 : ¬ x.toInt < lo) (h2 : ¬ hi < x.toInt) (ho : offs[(x.toInt - lo).toNat]? = some off) (ht : (pc : Int) + off = (tgt : Int)) (kk : zW p l e R s m args below meth c D cl A nL cells slots Q ws tgt lv st) : zW p l e R s m args below meth c D cl A nL cells slots Q ws pc lv (.int x :: st) := fun H locs ls hP hD hS h => lv_tableIn K.1.1 K.1.2.1 hd h1 h2 ho ht (kk H locs ls hP hD hS h)
theorem z_eqi {x y : Int32} (hxy : x = y) (kk : zW p l e R s m args below meth c D cl A nL cells slots Q ws pc lv (.int y :: st)) : zW p l e R s m args below meth c D cl A nL cells slots Q ws pc lv (.int x :: st) := hxy ▸ kk
theorem z_eql {x y : Int64} (hxy : x = y) (kk : zW p l e R s m args below meth c D cl A nL cells slots Q ws pc lv (.long y :: st)) : zW p l e R s m args below meth c D cl A nL cells slots Q ws pc lv (.long x :: st) := hxy ▸ kk
theorem z_lv {lv' : List (Nat × Value)} (is : List Nat) (hl : lv_pick lv is = lv') (kk : zW p l e R s m args below meth c D cl A nL cells slots Q ws pc lv' st) : zW p l e R s m args below meth c D cl A nL cells slots Q ws pc lv st := fun H locs ls hP hD hS h => kk H locs ls hP hD hS (lv_sub h is hl)
theorem z_ws {ws' : va_W} (hw : ws = ws') (kk : zW p l e R s m args below meth c D cl A nL cells slots Q ws' pc lv st) : zW p l e R s m args below meth c D cl A nL cells slots Q ws pc lv st := hw ▸ kk
theorem z_lvE {lv' : List (Nat × Value)} (hw : lv = lv') (kk : zW p l e R s m args below meth c D cl A nL cells slots Q ws pc lv' st) : zW p l e R s m args below meth c D cl A nL cells slots Q ws pc lv st := hw ▸ kk
theorem z_get (K : Cx p s m args c cc nL own Ts D cl tys A) {ref C : String} {T : u_T} {N ci index a : Nat} {fs : List Value} {v : Value} (hd : decode cc pc = .ok (.getfield index, 3)) (hin : ∀ w ∈ u_ws C T N, w ∈ Ts) (q0 : Nat) (he : ws[q0]? = some (a, .inr (ci, fs))) (hc : cl[ci]? = some (C, T, N)) (k : Nat) (hk : k < N) (hlink : Cond.fieldLink own index ref (T k).2.1 (T k).2.2.1 ∈ Ts) (href : ref = (T k).1) (hv : fs[k]? = some v) (kk : zW p l e R s m args below meth c D cl A nL cells slots Q ws (pc + 3) lv (v :: st)) : zW p l e R s m args below meth c D cl A nL cells slots Q ws pc lv (.ref a :: st) := fun H locs ls hP hD hS h => va_get K.1.1 K.1.2.1 K.1.2.2.2.2 hin K.1.2.2.2.1 K.2.1 hP q0 he hc k hk (K.1.2.2.2.2 _ hlink) (fun _ h9 => by rw [href]; exact h9) hv hd (kk H locs ls hP hD hS h)
theorem z_put (K : Cx p s m args c cc nL own Ts D cl tys A) {ref C : String} {T : u_T} {N ci index a : Nat} {fs : List Value} {v : Value} {ty : FieldType} {ws' : va_W} (hd : decode cc pc = .ok (.putfield index, 3)) (hin : ∀ w ∈ u_ws C T N, w ∈ Ts) (ty0 : Nat → FieldType) (hty : ∀ k, k < N → parseFieldDescriptor (T k).2.2.1 = some (ty0 k)) (hnm : ∀ a, a < N → ∀ b, b < N → a ≠ b → (T a).2.1 ≠ (T b).2.1) (q0 : Nat) (he : ws[q0]? = some (a, .inr (ci, fs))) (hc : cl[ci]? = some (C, T, N)) (k : Nat) (hk : k < N) (hlink : Cond.fieldLink own index ref (T k).2.1 (T k).2.2.1 ∈ Ts) (href : ref = (T k).1) (hfin : (T k).2.2.2 = false) (hdt : parseFieldDescriptor (T k).2.2.1 = some ty) (hn : narrow ty v = v) (hfit : fits ty v = true) (hl : k < fs.length) (hw : ws.set q0 (a, .inr (ci, fs.set k v)) = ws') (kk : zW p l e R s m args below meth c D cl A nL cells slots Q ws' (pc + 3) lv st) : zW p l e R s m args below meth c D cl A nL cells slots Q ws pc lv (v :: .ref a :: st) := fun H locs ls hP hD hS h => va_put K.1.1 K.1.2.1 K.1.2.2.2.2 hin ty0 hty hnm K.1.2.2.2.1 K.2.1 hP hD hS q0 he hc k hk (K.1.2.2.2.2 _ hlink) (fun _ h9 => by rw [href]; exact h9) hfin hdt hn hfit hl hd (fun H locs hP hD hS => kk H locs ls (hw ▸ hP) (hw ▸ hD) hS h)
theorem z_iald (K : Cx p s m args c cc nL own Ts D cl tys A) {a : Nat} {cA : ClassId} {n : Nat} {f : Nat → Int32} {i : Int32} (hd : decode cc pc = .ok (.iaload, 1)) (q0 t0 : Nat) (ha : ws[q0]? = some (a, .inl (cA, n, .inl f))) (ht : tys[t0]? = some (cA, .int)) (hi : vp_in i n) (kk : zW p l e R s m args below meth c D cl A nL cells slots Q ws (pc + 1) lv (.int (f i.toNatClampNeg) :: st)) : zW p l e R s m args below meth c D cl A nL cells slots Q ws pc lv (.int i :: .ref a :: st) := fun H locs ls hP hD hS h => va_iald K.1.1 K.1.2.1 K.2.1 hP q0 t0 ha ht hi hd (kk H locs ls hP hD hS h)
theorem z_iast (K : Cx p s m args c cc nL own Ts D cl tys A) {a : Nat} {cA : ClassId} {n : Nat} {f : Nat → Int32} {i : Int32} {x : Int32} {ws' : va_W} (hd : decode cc pc = .ok (.iastore, 1)) (q0 t0 : Nat) (ha : ws[q0]? = some (a, .inl (cA, n, .inl f))) (ht : tys[t0]? = some (cA, .int)) (hi : vp_in i n) (hw : ws.set q0 (a, .inl (cA, n, .inl (upd f i.toNatClampNeg x))) = ws') (kk : zW p l e R s m args below meth c D cl A nL cells slots Q ws' (pc + 1) lv st) : zW p l e R s m args below meth c D cl A nL cells slots Q ws pc lv (.int x :: .int i :: .ref a :: st) := fun H locs ls hP hD hS h => va_iast K.1.1 K.1.2.1 K.2.1 hP hD hS q0 t0 ha ht hi hd (fun H locs hP hD hS => kk H locs ls (hw ▸ hP) (hw ▸ hD) hS h)
theorem z_cald (K : Cx p s m args c cc nL own Ts D cl tys A) {a : Nat} {cA : ClassId} {n : Nat} {f : Nat → Int32} {i : Int32} (hd : decode cc pc = .ok (.caload, 1)) (q0 t0 : Nat) (ha : ws[q0]? = some (a, .inl (cA, n, .inl f))) (ht : tys[t0]? = some (cA, .char)) (hi : vp_in i n) (kk : zW p l e R s m args below meth c D cl A nL cells slots Q ws (pc + 1) lv (.int (f i.toNatClampNeg) :: st)) : zW p l e R s m args below meth c D cl A nL cells slots Q ws pc lv (.int i :: .ref a :: st) := fun H locs ls hP hD hS h => va_cald K.1.1 K.1.2.1 K.2.1 hP q0 t0 ha ht hi hd (kk H locs ls hP hD hS h)
theorem z_cast (K : Cx p s m args c cc nL own Ts D cl tys A) {a : Nat} {cA : ClassId} {n : Nat} {f : Nat → Int32} {i : Int32} {x : Int32} {ws' : va_W} (hd : decode cc pc = .ok (.castore, 1)) (q0 t0 : Nat) (ha : ws[q0]? = some (a, .inl (cA, n, .inl f))) (ht : tys[t0]? = some (cA, .char)) (hi : vp_in i n) (hw : ws.set q0 (a, .inl (cA, n, .inl (upd f i.toNatClampNeg (vp_nar .char x)))) = ws') (kk : zW p l e R s m args below meth c D cl A nL cells slots Q ws' (pc + 1) lv st) : zW p l e R s m args below meth c D cl A nL cells slots Q ws pc lv (.int x :: .int i :: .ref a :: st) := fun H locs ls hP hD hS h => va_cast K.1.1 K.1.2.1 K.2.1 hP hD hS q0 t0 ha ht hi hd (fun H locs hP hD hS => kk H locs ls (hw ▸ hP) (hw ▸ hD) hS h)
theorem z_bald (K : Cx p s m args c cc nL own Ts D cl tys A) {a : Nat} {cA : ClassId} {n : Nat} {f : Nat → Int32} {i : Int32} (hd : decode cc pc = .ok (.baload, 1)) (q0 t0 : Nat) (ha : ws[q0]? = some (a, .inl (cA, n, .inl f))) (ht : tys[t0]? = some (cA, .byte)) (hi : vp_in i n) (kk : zW p l e R s m args below meth c D cl A nL cells slots Q ws (pc + 1) lv (.int (f i.toNatClampNeg) :: st)) : zW p l e R s m args below meth c D cl A nL cells slots Q ws pc lv (.int i :: .ref a :: st) := fun H locs ls hP hD hS h => va_bald K.1.1 K.1.2.1 K.2.1 hP q0 t0 ha ht hi hd (kk H locs ls hP hD hS h)
theorem z_bast (K : Cx p s m args c cc nL own Ts D cl tys A) {a : Nat} {cA : ClassId} {n : Nat} {f : Nat → Int32} {i : Int32} {x : Int32} {ws' : va_W} (hd : decode cc pc = .ok (.bastore, 1)) (q0 t0 : Nat) (ha : ws[q0]? = some (a, .inl (cA, n, .inl f))) (ht : tys[t0]? = some (cA, .byte)) (hi : vp_in i n) (hw : ws.set q0 (a, .inl (cA, n, .inl (upd f i.toNatClampNeg (vp_nar .byte x)))) = ws') (kk : zW p l e R s m args below meth c D cl A nL cells slots Q ws' (pc + 1) lv st) : zW p l e R s m args below meth c D cl A nL cells slots Q ws pc lv (.int x :: .int i :: .ref a :: st) := fun H locs ls hP hD hS h => va_bast K.1.1 K.1.2.1 K.2.1 hP hD hS q0 t0 ha ht hi hd (fun H locs hP hD hS => kk H locs ls (hw ▸ hP) (hw ▸ hD) hS h)
theorem z_zald (K : Cx p s m args c cc nL own Ts D cl tys A) {a : Nat} {cA : ClassId} {n : Nat} {f : Nat → Int32} {i : Int32} (hd : decode cc pc = .ok (.baload, 1)) (q0 t0 : Nat) (ha : ws[q0]? = some (a, .inl (cA, n, .inl f))) (ht : tys[t0]? = some (cA, .boolean)) (hi : vp_in i n) (kk : zW p l e R s m args below meth c D cl A nL cells slots Q ws (pc + 1) lv (.int (f i.toNatClampNeg) :: st)) : zW p l e R s m args below meth c D cl A nL cells slots Q ws pc lv (.int i :: .ref a :: st) := fun H locs ls hP hD hS h => va_zald K.1.1 K.1.2.1 K.2.1 hP q0 t0 ha ht hi hd (kk H locs ls hP hD hS h)
theorem z_zast (K : Cx p s m args c cc nL own Ts D cl tys A) {a : Nat} {cA : ClassId} {n : Nat} {f : Nat → Int32} {i : Int32} {x : Int32} {ws' : va_W} (hd : decode cc pc = .ok (.bastore, 1)) (q0 t0 : Nat) (ha : ws[q0]? = some (a, .inl (cA, n, .inl f))) (ht : tys[t0]? = some (cA, .boolean)) (hi : vp_in i n) (hw : ws.set q0 (a, .inl (cA, n, .inl (upd f i.toNatClampNeg (vp_nar .boolean x)))) = ws') (kk : zW p l e R s m args below meth c D cl A nL cells slots Q ws' (pc + 1) lv st) : zW p l e R s m args below meth c D cl A nL cells slots Q ws pc lv (.int x :: .int i :: .ref a :: st) := fun H locs ls hP hD hS h => va_zast K.1.1 K.1.2.1 K.2.1 hP hD hS q0 t0 ha ht hi hd (fun H locs hP hD hS => kk H locs ls (hw ▸ hP) (hw ▸ hD) hS h)
theorem z_lald (K : Cx p s m args c cc nL own Ts D cl tys A) {a : Nat} {cA : ClassId} {n : Nat} {f : Nat → Int64} {i : Int32} (hd : decode cc pc = .ok (.laload, 1)) (q0 t0 : Nat) (ha : ws[q0]? = some (a, .inl (cA, n, .inr (.inl f)))) (ht : tys[t0]? = some (cA, .long)) (hi : vp_in i n) (kk : zW p l e R s m args below meth c D cl A nL cells slots Q ws (pc + 1) lv (.long (f i.toNatClampNeg) :: st)) : zW p l e R s m args below meth c D cl A nL cells slots Q ws pc lv (.int i :: .ref a :: st) := fun H locs ls hP hD hS h => va_lald K.1.1 K.1.2.1 K.2.1 hP q0 t0 ha ht hi hd (kk H locs ls hP hD hS h)
theorem z_last (K : Cx p s m args c cc nL own Ts D cl tys A) {a : Nat} {cA : ClassId} {n : Nat} {f : Nat → Int64} {i : Int32} {x : Int64} {ws' : va_W} (hd : decode cc pc = .ok (.lastore, 1)) (q0 t0 : Nat) (ha : ws[q0]? = some (a, .inl (cA, n, .inr (.inl f)))) (ht : tys[t0]? = some (cA, .long)) (hi : vp_in i n) (hw : ws.set q0 (a, .inl (cA, n, .inr (.inl (vp_updL f i.toNatClampNeg x)))) = ws') (kk : zW p l e R s m args below meth c D cl A nL cells slots Q ws' (pc + 1) lv st) : zW p l e R s m args below meth c D cl A nL cells slots Q ws pc lv (.long x :: .int i :: .ref a :: st) := fun H locs ls hP hD hS h => va_last K.1.1 K.1.2.1 K.2.1 hP hD hS q0 t0 ha ht hi hd (fun H locs hP hD hS => kk H locs ls (hw ▸ hP) (hw ▸ hD) hS h)
theorem z_alen (K : Cx p s m args c cc nL own Ts D cl tys A) {a : Nat} {cA : ClassId} {x : vp_A} {ty : FieldType} {v : Int32} (hd : decode cc pc = .ok (.arraylength, 1)) (q0 t0 : Nat) (ha : ws[q0]? = some (a, .inl (cA, x))) (ht : tys[t0]? = some (cA, ty)) (hv : Int32.ofNat x.1 = v) (kk : zW p l e R s m args below meth c D cl A nL cells slots Q ws (pc + 1) lv (.int v :: st)) : zW p l e R s m args below meth c D cl A nL cells slots Q ws pc lv (.ref a :: st) := fun H locs ls hP hD hS h => va_alen K.1.1 K.1.2.1 K.2.1 hP q0 t0 ha ht hv hd (kk H locs ls hP hD hS h)
theorem z_free {H0 H : Heap} {locs : List Loc} (hA : ∀ q : Nat, H0.size ≤ q → A q) (hD : va_D A ws) (hS : va_S A H0 H locs) : ∀ q, va_A ws H.size q → A q := by
  intro q h
  rcases h with ⟨k, e, h⟩ | h
  · exact hD.2 k (q, e) h
  · exact hA q (Nat.le_trans hS.1 h)
theorem z_cVi (K : Cx p s m args c cc nL own Ts D cl tys A) {S : Type} {V : S → va_W} {u u1 : S} {r : Int32} {y : MethodName} {wy : List Cond} {rm : Room} {index n maxL : Nat} {bytes : ByteArray} {ret : Option FieldType} {As rest : List Value} (q0 : Nat) {b ci : Nat} {C : String} {qc : vw_C} {fs : List Value} (hM : MI l D cl tys V y wy rm (.ref b :: As) u r u1) (cw : CallW R s args own C index y bytes maxL ret wy rm 0 0 n) (hd : decode cc pc = .ok (.invokevirtual index, 3)) (he : (V u)[q0]? = some (b, .inr (ci, fs))) (hc : cl[ci]? = some qc) (hC : qc.1 = C) (hn : As.length = n) (hst : st = As.reverse ++ .ref b :: rest) (hrm : (rest.map fun v => v.category).sum ≤ 8) (hf : cells + 0 ≤ R.cells ∧ slots + 0 ≤ R.slots) (kk : zW p l e R s m args below meth c D cl A nL cells slots Q (V u1) (pc + 3) lv (.int r :: rest)) : zW p l e R s m args below meth c D cl A nL cells slots Q (V u) pc lv st := by
  subst hst; subst hC
  intro H locs ls hP hD hS h
  have hF := z_free (ws := V u) K.2.2.1 hD hS
  refine va_calli (va_runV (As := As) (rest := rest) K.1 (hM H.size) cw ⟨zPc_blind, va_recv K.2.1 hP hc he, fun U hU hW => ⟨rfl, by rw [hU], by rw [hU]; exact hP, va_K.moved hW.alike K.2.1, hD.weaken (fun _ _ _ _ => trivial), K.2.2.2.warm hW⟩⟩ rfl hn (h.1) rfl (lv_room hrm) hd hf) hS (fun q _ g => hF q g) hF (fun r' u' t H1 locs1 ht hvm hw hB hz1 hk1 hS1 => by
    obtain ⟨e1, e2⟩ := hw
    rw [e2] at hB
    rw [e1]
    exact kk H1 locs1 ls (ht ▸ hB.1) (hB.2.2.weaken (fun k q _ g => hF q.1 g)) hS1 h)
theorem z_cVNi (K : Cx p s m args c cc nL own Ts D cl tys A) {S : Type} {V : S → va_W} {u u1 : S} {r : Int32} {y : MethodName} {wy : List Cond} {rm : Room} {index n maxL : Nat} {bytes : ByteArray} {ret : Option FieldType} {As rest : List Value} (q0 : Nat) {b ci : Nat} {C : String} {qc : vw_C} {fs : List Value} (hM : MI l D cl tys V y wy rm (.ref b :: As) u r u1) {host : String} (cw : va_CN R s args own index y host bytes maxL ret wy rm 0 0 n ∧ (Cond.instanceMethod y).before args s = true ∧ (Cond.selects C y y).before args s = true) (hd : decode cc pc = .ok (.invokevirtual index, 3)) (he : (V u)[q0]? = some (b, .inr (ci, fs))) (hc : cl[ci]? = some qc) (hC : qc.1 = C) (hn : As.length = n) (hst : st = As.reverse ++ .ref b :: rest) (hrm : (rest.map fun v => v.category).sum ≤ 8) (hf : cells + 0 ≤ R.cells ∧ slots + 0 ≤ R.slots) (kk : zW p l e R s m args below meth c D cl A nL cells slots Q (V u1) (pc + 3) lv (.int r :: rest)) : zW p l e R s m args below meth c D cl A nL cells slots Q (V u) pc lv st := by
  subst hst; subst hC
  intro H locs ls hP hD hS h
  have hF := z_free (ws := V u) K.2.2.1 hD hS
  refine va_calli (va_runVN (As := As) (rest := rest) K.1 (hM H.size) cw ⟨zPc_blind, va_recv K.2.1 hP hc he, fun U hU hW => ⟨rfl, by rw [hU], by rw [hU]; exact hP, va_K.moved hW.alike K.2.1, hD.weaken (fun _ _ _ _ => trivial), K.2.2.2.warm hW⟩⟩ rfl hn (h.1) rfl (lv_room hrm) hd hf) hS (fun q _ g => hF q g) hF (fun r' u' t H1 locs1 ht hvm hw hB hz1 hk1 hS1 => by
    obtain ⟨e1, e2⟩ := hw
    rw [e2] at hB
    rw [e1]
    exact kk H1 locs1 ls (ht ▸ hB.1) (hB.2.2.weaken (fun k q _ g => hF q.1 g)) hS1 h)
theorem z_cSi (K : Cx p s m args c cc nL own Ts D cl tys A) {S : Type} {V : S → va_W} {u u1 : S} {r : Int32} {y : MethodName} {wy : List Cond} {rm : Room} {index n maxL : Nat} {bytes : ByteArray} {ret : Option FieldType} {As rest : List Value} (hM : MI l D cl tys V y wy rm As u r u1) (cw : CallB R s args own index y bytes maxL ret wy rm 0 0 n ∧ (Cond.static y).before args s = true) (hd : decode cc pc = .ok (.invokestatic index, 3)) (hn : As.length = n) (hst : st = As.reverse ++ rest) (hrm : (rest.map fun v => v.category).sum ≤ 8) (hf : cells + 0 ≤ R.cells ∧ slots + 0 ≤ R.slots) (kk : zW p l e R s m args below meth c D cl A nL cells slots Q (V u1) (pc + 3) lv (.int r :: rest)) : zW p l e R s m args below meth c D cl A nL cells slots Q (V u) pc lv st := by
  subst hst
  intro H locs ls hP hD hS h
  have hF := z_free (ws := V u) K.2.2.1 hD hS
  refine va_calli (va_runS (As := As) (rest := rest) K.1 (hM H.size) cw ⟨zPc_blind, fun U hU hW => ⟨rfl, by rw [hU], by rw [hU]; exact hP, va_K.moved hW.alike K.2.1, hD.weaken (fun _ _ _ _ => trivial), K.2.2.2.warm hW⟩⟩ rfl hn (h.1) rfl (lv_room hrm) hd hf) hS (fun q _ g => hF q g) hF (fun r' u' t H1 locs1 ht hvm hw hB hz1 hk1 hS1 => by
    obtain ⟨e1, e2⟩ := hw
    rw [e2] at hB
    rw [e1]
    exact kk H1 locs1 ls (ht ▸ hB.1) (hB.2.2.weaken (fun k q _ g => hF q.1 g)) hS1 h)
theorem z_cSNi (K : Cx p s m args c cc nL own Ts D cl tys A) {S : Type} {V : S → va_W} {u u1 : S} {r : Int32} {y : MethodName} {wy : List Cond} {rm : Room} {index n maxL : Nat} {bytes : ByteArray} {ret : Option FieldType} {As rest : List Value} (hM : MI l D cl tys V y wy rm As u r u1) {host : String} (cw : va_CN R s args own index y host bytes maxL ret wy rm 0 0 n ∧ (Cond.static y).before args s = true ∧ True) (hd : decode cc pc = .ok (.invokestatic index, 3)) (hn : As.length = n) (hst : st = As.reverse ++ rest) (hrm : (rest.map fun v => v.category).sum ≤ 8) (hf : cells + 0 ≤ R.cells ∧ slots + 0 ≤ R.slots) (kk : zW p l e R s m args below meth c D cl A nL cells slots Q (V u1) (pc + 3) lv (.int r :: rest)) : zW p l e R s m args below meth c D cl A nL cells slots Q (V u) pc lv st := by
  subst hst
  intro H locs ls hP hD hS h
  have hF := z_free (ws := V u) K.2.2.1 hD hS
  refine va_calli (va_runSN (As := As) (rest := rest) K.1 (hM H.size) cw ⟨zPc_blind, fun U hU hW => ⟨rfl, by rw [hU], by rw [hU]; exact hP, va_K.moved hW.alike K.2.1, hD.weaken (fun _ _ _ _ => trivial), K.2.2.2.warm hW⟩⟩ rfl hn (h.1) rfl (lv_room hrm) hd hf) hS (fun q _ g => hF q g) hF (fun r' u' t H1 locs1 ht hvm hw hB hz1 hk1 hS1 => by
    obtain ⟨e1, e2⟩ := hw
    rw [e2] at hB
    rw [e1]
    exact kk H1 locs1 ls (ht ▸ hB.1) (hB.2.2.weaken (fun k q _ g => hF q.1 g)) hS1 h)
theorem z_cVl (K : Cx p s m args c cc nL own Ts D cl tys A) {S : Type} {V : S → va_W} {u u1 : S} {r : Int64} {y : MethodName} {wy : List Cond} {rm : Room} {index n maxL : Nat} {bytes : ByteArray} {ret : Option FieldType} {As rest : List Value} (q0 : Nat) {b ci : Nat} {C : String} {qc : vw_C} {fs : List Value} (hM : ML l D cl tys V y wy rm (.ref b :: As) u r u1) (cw : CallW R s args own C index y bytes maxL ret wy rm 0 0 n) (hd : decode cc pc = .ok (.invokevirtual index, 3)) (he : (V u)[q0]? = some (b, .inr (ci, fs))) (hc : cl[ci]? = some qc) (hC : qc.1 = C) (hn : As.length = n) (hst : st = As.reverse ++ .ref b :: rest) (hrm : (rest.map fun v => v.category).sum ≤ 8) (hf : cells + 0 ≤ R.cells ∧ slots + 0 ≤ R.slots) (kk : zW p l e R s m args below meth c D cl A nL cells slots Q (V u1) (pc + 3) lv (.long r :: rest)) : zW p l e R s m args below meth c D cl A nL cells slots Q (V u) pc lv st := by
  subst hst; subst hC
  intro H locs ls hP hD hS h
  have hF := z_free (ws := V u) K.2.2.1 hD hS
  refine va_calll (va_runV (As := As) (rest := rest) K.1 (hM H.size) cw ⟨zPc_blind, va_recv K.2.1 hP hc he, fun U hU hW => ⟨rfl, by rw [hU], by rw [hU]; exact hP, va_K.moved hW.alike K.2.1, hD.weaken (fun _ _ _ _ => trivial), K.2.2.2.warm hW⟩⟩ rfl hn (h.1) rfl (lv_room hrm) hd hf) hS (fun q _ g => hF q g) hF (fun r' u' t H1 locs1 ht hvm hw hB hz1 hk1 hS1 => by
    obtain ⟨e1, e2⟩ := hw
    rw [e2] at hB
    rw [e1]
    exact kk H1 locs1 ls (ht ▸ hB.1) (hB.2.2.weaken (fun k q _ g => hF q.1 g)) hS1 h)
theorem z_cVNl (K : Cx p s m args c cc nL own Ts D cl tys A) {S : Type} {V : S → va_W} {u u1 : S} {r : Int64} {y : MethodName} {wy : List Cond} {rm : Room} {index n maxL : Nat} {bytes : ByteArray} {ret : Option FieldType} {As rest : List Value} (q0 : Nat) {b ci : Nat} {C : String} {qc : vw_C} {fs : List Value} (hM : ML l D cl tys V y wy rm (.ref b :: As) u r u1) {host : String} (cw : va_CN R s args own index y host bytes maxL ret wy rm 0 0 n ∧ (Cond.instanceMethod y).before args s = true ∧ (Cond.selects C y y).before args s = true) (hd : decode cc pc = .ok (.invokevirtual index, 3)) (he : (V u)[q0]? = some (b, .inr (ci, fs))) (hc : cl[ci]? = some qc) (hC : qc.1 = C) (hn : As.length = n) (hst : st = As.reverse ++ .ref b :: rest) (hrm : (rest.map fun v => v.category).sum ≤ 8) (hf : cells + 0 ≤ R.cells ∧ slots + 0 ≤ R.slots) (kk : zW p l e R s m args below meth c D cl A nL cells slots Q (V u1) (pc + 3) lv (.long r :: rest)) : zW p l e R s m args below meth c D cl A nL cells slots Q (V u) pc lv st := by
  subst hst; subst hC
  intro H locs ls hP hD hS h
  have hF := z_free (ws := V u) K.2.2.1 hD hS
  refine va_calll (va_runVN (As := As) (rest := rest) K.1 (hM H.size) cw ⟨zPc_blind, va_recv K.2.1 hP hc he, fun U hU hW => ⟨rfl, by rw [hU], by rw [hU]; exact hP, va_K.moved hW.alike K.2.1, hD.weaken (fun _ _ _ _ => trivial), K.2.2.2.warm hW⟩⟩ rfl hn (h.1) rfl (lv_room hrm) hd hf) hS (fun q _ g => hF q g) hF (fun r' u' t H1 locs1 ht hvm hw hB hz1 hk1 hS1 => by
    obtain ⟨e1, e2⟩ := hw
    rw [e2] at hB
    rw [e1]
    exact kk H1 locs1 ls (ht ▸ hB.1) (hB.2.2.weaken (fun k q _ g => hF q.1 g)) hS1 h)
theorem z_cSl (K : Cx p s m args c cc nL own Ts D cl tys A) {S : Type} {V : S → va_W} {u u1 : S} {r : Int64} {y : MethodName} {wy : List Cond} {rm : Room} {index n maxL : Nat} {bytes : ByteArray} {ret : Option FieldType} {As rest : List Value} (hM : ML l D cl tys V y wy rm As u r u1) (cw : CallB R s args own index y bytes maxL ret wy rm 0 0 n ∧ (Cond.static y).before args s = true) (hd : decode cc pc = .ok (.invokestatic index, 3)) (hn : As.length = n) (hst : st = As.reverse ++ rest) (hrm : (rest.map fun v => v.category).sum ≤ 8) (hf : cells + 0 ≤ R.cells ∧ slots + 0 ≤ R.slots) (kk : zW p l e R s m args below meth c D cl A nL cells slots Q (V u1) (pc + 3) lv (.long r :: rest)) : zW p l e R s m args below meth c D cl A nL cells slots Q (V u) pc lv st := by
  subst hst
  intro H locs ls hP hD hS h
  have hF := z_free (ws := V u) K.2.2.1 hD hS
  refine va_calll (va_runS (As := As) (rest := rest) K.1 (hM H.size) cw ⟨zPc_blind, fun U hU hW => ⟨rfl, by rw [hU], by rw [hU]; exact hP, va_K.moved hW.alike K.2.1, hD.weaken (fun _ _ _ _ => trivial), K.2.2.2.warm hW⟩⟩ rfl hn (h.1) rfl (lv_room hrm) hd hf) hS (fun q _ g => hF q g) hF (fun r' u' t H1 locs1 ht hvm hw hB hz1 hk1 hS1 => by
    obtain ⟨e1, e2⟩ := hw
    rw [e2] at hB
    rw [e1]
    exact kk H1 locs1 ls (ht ▸ hB.1) (hB.2.2.weaken (fun k q _ g => hF q.1 g)) hS1 h)
theorem z_cSNl (K : Cx p s m args c cc nL own Ts D cl tys A) {S : Type} {V : S → va_W} {u u1 : S} {r : Int64} {y : MethodName} {wy : List Cond} {rm : Room} {index n maxL : Nat} {bytes : ByteArray} {ret : Option FieldType} {As rest : List Value} (hM : ML l D cl tys V y wy rm As u r u1) {host : String} (cw : va_CN R s args own index y host bytes maxL ret wy rm 0 0 n ∧ (Cond.static y).before args s = true ∧ True) (hd : decode cc pc = .ok (.invokestatic index, 3)) (hn : As.length = n) (hst : st = As.reverse ++ rest) (hrm : (rest.map fun v => v.category).sum ≤ 8) (hf : cells + 0 ≤ R.cells ∧ slots + 0 ≤ R.slots) (kk : zW p l e R s m args below meth c D cl A nL cells slots Q (V u1) (pc + 3) lv (.long r :: rest)) : zW p l e R s m args below meth c D cl A nL cells slots Q (V u) pc lv st := by
  subst hst
  intro H locs ls hP hD hS h
  have hF := z_free (ws := V u) K.2.2.1 hD hS
  refine va_calll (va_runSN (As := As) (rest := rest) K.1 (hM H.size) cw ⟨zPc_blind, fun U hU hW => ⟨rfl, by rw [hU], by rw [hU]; exact hP, va_K.moved hW.alike K.2.1, hD.weaken (fun _ _ _ _ => trivial), K.2.2.2.warm hW⟩⟩ rfl hn (h.1) rfl (lv_room hrm) hd hf) hS (fun q _ g => hF q g) hF (fun r' u' t H1 locs1 ht hvm hw hB hz1 hk1 hS1 => by
    obtain ⟨e1, e2⟩ := hw
    rw [e2] at hB
    rw [e1]
    exact kk H1 locs1 ls (ht ▸ hB.1) (hB.2.2.weaken (fun k q _ g => hF q.1 g)) hS1 h)
theorem z_cVv (K : Cx p s m args c cc nL own Ts D cl tys A) {S : Type} {V : S → va_W} {u u1 : S} {y : MethodName} {wy : List Cond} {rm : Room} {index n maxL : Nat} {bytes : ByteArray} {ret : Option FieldType} {As rest : List Value} (q0 : Nat) {b ci : Nat} {C : String} {qc : vw_C} {fs : List Value} (hM : MV l D cl tys V y wy rm (.ref b :: As) u u1) (cw : CallW R s args own C index y bytes maxL ret wy rm 0 0 n) (hd : decode cc pc = .ok (.invokevirtual index, 3)) (he : (V u)[q0]? = some (b, .inr (ci, fs))) (hc : cl[ci]? = some qc) (hC : qc.1 = C) (hn : As.length = n) (hst : st = As.reverse ++ .ref b :: rest) (hrm : (rest.map fun v => v.category).sum ≤ 8) (hf : cells + 0 ≤ R.cells ∧ slots + 0 ≤ R.slots) (kk : zW p l e R s m args below meth c D cl A nL cells slots Q (V u1) (pc + 3) lv rest) : zW p l e R s m args below meth c D cl A nL cells slots Q (V u) pc lv st := by
  subst hst; subst hC
  intro H locs ls hP hD hS h
  have hF := z_free (ws := V u) K.2.2.1 hD hS
  refine va_callv (va_runV (As := As) (rest := rest) K.1 (hM H.size) cw ⟨zPc_blind, va_recv K.2.1 hP hc he, fun U hU hW => ⟨rfl, by rw [hU], by rw [hU]; exact hP, va_K.moved hW.alike K.2.1, hD.weaken (fun _ _ _ _ => trivial), K.2.2.2.warm hW⟩⟩ rfl hn (h.1) rfl (lv_room hrm) hd hf) hS (fun q _ g => hF q g) hF (fun u' t H1 locs1 ht hvm hw hB hz1 hk1 hS1 => by
    rw [hw] at hB
    exact kk H1 locs1 ls (ht ▸ hB.1) (hB.2.2.weaken (fun k q _ g => hF q.1 g)) hS1 h)
theorem z_cVNv (K : Cx p s m args c cc nL own Ts D cl tys A) {S : Type} {V : S → va_W} {u u1 : S} {y : MethodName} {wy : List Cond} {rm : Room} {index n maxL : Nat} {bytes : ByteArray} {ret : Option FieldType} {As rest : List Value} (q0 : Nat) {b ci : Nat} {C : String} {qc : vw_C} {fs : List Value} (hM : MV l D cl tys V y wy rm (.ref b :: As) u u1) {host : String} (cw : va_CN R s args own index y host bytes maxL ret wy rm 0 0 n ∧ (Cond.instanceMethod y).before args s = true ∧ (Cond.selects C y y).before args s = true) (hd : decode cc pc = .ok (.invokevirtual index, 3)) (he : (V u)[q0]? = some (b, .inr (ci, fs))) (hc : cl[ci]? = some qc) (hC : qc.1 = C) (hn : As.length = n) (hst : st = As.reverse ++ .ref b :: rest) (hrm : (rest.map fun v => v.category).sum ≤ 8) (hf : cells + 0 ≤ R.cells ∧ slots + 0 ≤ R.slots) (kk : zW p l e R s m args below meth c D cl A nL cells slots Q (V u1) (pc + 3) lv rest) : zW p l e R s m args below meth c D cl A nL cells slots Q (V u) pc lv st := by
  subst hst; subst hC
  intro H locs ls hP hD hS h
  have hF := z_free (ws := V u) K.2.2.1 hD hS
  refine va_callv (va_runVN (As := As) (rest := rest) K.1 (hM H.size) cw ⟨zPc_blind, va_recv K.2.1 hP hc he, fun U hU hW => ⟨rfl, by rw [hU], by rw [hU]; exact hP, va_K.moved hW.alike K.2.1, hD.weaken (fun _ _ _ _ => trivial), K.2.2.2.warm hW⟩⟩ rfl hn (h.1) rfl (lv_room hrm) hd hf) hS (fun q _ g => hF q g) hF (fun u' t H1 locs1 ht hvm hw hB hz1 hk1 hS1 => by
    rw [hw] at hB
    exact kk H1 locs1 ls (ht ▸ hB.1) (hB.2.2.weaken (fun k q _ g => hF q.1 g)) hS1 h)
theorem z_cSv (K : Cx p s m args c cc nL own Ts D cl tys A) {S : Type} {V : S → va_W} {u u1 : S} {y : MethodName} {wy : List Cond} {rm : Room} {index n maxL : Nat} {bytes : ByteArray} {ret : Option FieldType} {As rest : List Value} (hM : MV l D cl tys V y wy rm As u u1) (cw : CallB R s args own index y bytes maxL ret wy rm 0 0 n ∧ (Cond.static y).before args s = true) (hd : decode cc pc = .ok (.invokestatic index, 3)) (hn : As.length = n) (hst : st = As.reverse ++ rest) (hrm : (rest.map fun v => v.category).sum ≤ 8) (hf : cells + 0 ≤ R.cells ∧ slots + 0 ≤ R.slots) (kk : zW p l e R s m args below meth c D cl A nL cells slots Q (V u1) (pc + 3) lv rest) : zW p l e R s m args below meth c D cl A nL cells slots Q (V u) pc lv st := by
  subst hst
  intro H locs ls hP hD hS h
  have hF := z_free (ws := V u) K.2.2.1 hD hS
  refine va_callv (va_runS (As := As) (rest := rest) K.1 (hM H.size) cw ⟨zPc_blind, fun U hU hW => ⟨rfl, by rw [hU], by rw [hU]; exact hP, va_K.moved hW.alike K.2.1, hD.weaken (fun _ _ _ _ => trivial), K.2.2.2.warm hW⟩⟩ rfl hn (h.1) rfl (lv_room hrm) hd hf) hS (fun q _ g => hF q g) hF (fun u' t H1 locs1 ht hvm hw hB hz1 hk1 hS1 => by
    rw [hw] at hB
    exact kk H1 locs1 ls (ht ▸ hB.1) (hB.2.2.weaken (fun k q _ g => hF q.1 g)) hS1 h)
theorem z_cSNv (K : Cx p s m args c cc nL own Ts D cl tys A) {S : Type} {V : S → va_W} {u u1 : S} {y : MethodName} {wy : List Cond} {rm : Room} {index n maxL : Nat} {bytes : ByteArray} {ret : Option FieldType} {As rest : List Value} (hM : MV l D cl tys V y wy rm As u u1) {host : String} (cw : va_CN R s args own index y host bytes maxL ret wy rm 0 0 n ∧ (Cond.static y).before args s = true ∧ True) (hd : decode cc pc = .ok (.invokestatic index, 3)) (hn : As.length = n) (hst : st = As.reverse ++ rest) (hrm : (rest.map fun v => v.category).sum ≤ 8) (hf : cells + 0 ≤ R.cells ∧ slots + 0 ≤ R.slots) (kk : zW p l e R s m args below meth c D cl A nL cells slots Q (V u1) (pc + 3) lv rest) : zW p l e R s m args below meth c D cl A nL cells slots Q (V u) pc lv st := by
  subst hst
  intro H locs ls hP hD hS h
  have hF := z_free (ws := V u) K.2.2.1 hD hS
  refine va_callv (va_runSN (As := As) (rest := rest) K.1 (hM H.size) cw ⟨zPc_blind, fun U hU hW => ⟨rfl, by rw [hU], by rw [hU]; exact hP, va_K.moved hW.alike K.2.1, hD.weaken (fun _ _ _ _ => trivial), K.2.2.2.warm hW⟩⟩ rfl hn (h.1) rfl (lv_room hrm) hd hf) hS (fun q _ g => hF q g) hF (fun u' t H1 locs1 ht hvm hw hB hz1 hk1 hS1 => by
    rw [hw] at hB
    exact kk H1 locs1 ls (ht ▸ hB.1) (hB.2.2.weaken (fun k q _ g => hF q.1 g)) hS1 h)
theorem z_reti {S : Type} {V : S → va_W} {u0 u1 : S} {r0 r : Int32} {op : Instr} (ret : ∀ (pc : Nat) (lv : List (Nat × Value)), decode cc pc = .ok (op, 1) → zW p l e R s m args below meth c D cl A nL cells slots Q (V u1) pc lv [.int r]) (hd : decode cc pc = .ok (op, 1)) (hr : r0 = r) (hu : u0 = u1) : zW p l e R s m args below meth c D cl A nL cells slots Q (V u0) pc lv [.int r0] := by
  subst hr; subst hu; exact ret pc lv hd
theorem z_retl {S : Type} {V : S → va_W} {u0 u1 : S} {r0 r : Int64} {op : Instr} (ret : ∀ (pc : Nat) (lv : List (Nat × Value)), decode cc pc = .ok (op, 1) → zW p l e R s m args below meth c D cl A nL cells slots Q (V u1) pc lv [.long r]) (hd : decode cc pc = .ok (op, 1)) (hr : r0 = r) (hu : u0 = u1) : zW p l e R s m args below meth c D cl A nL cells slots Q (V u0) pc lv [.long r0] := by
  subst hr; subst hu; exact ret pc lv hd
theorem z_retv {S : Type} {V : S → va_W} {u0 u1 : S} {op : Instr} (ret : ∀ (pc : Nat) (lv : List (Nat × Value)), decode cc pc = .ok (op, 1) → zW p l e R s m args below meth c D cl A nL cells slots Q (V u1) pc lv []) (hd : decode cc pc = .ok (op, 1)) (hu : u0 = u1) : zW p l e R s m args below meth c D cl A nL cells slots Q (V u0) pc lv [] := by
  subst hu; exact ret pc lv hd
theorem cwA {y : MethodName} {bytes : ByteArray} {maxL index : Nat} {ret : Option FieldType} {rm : Room} {C : String} (K : Cx p s m args c cc nL own AW D cl tys A) (n : Nat) (h1 : Cond.methodLink own index y ∈ AW) (h2 : Cond.instanceMethod y ∈ AW) (h3 : Cond.selects C y y ∈ AW) (h4 : Cond.initialized C ∈ AW) (h5 : Cond.code y bytes maxL ret ∈ AW) (hd : y.cls = C ∧ y.cls ≠ "java/lang/invoke/MethodHandle" ∧ y.cls ≠ "java/lang/invoke/VarHandle" ∧ (parseMethodDescriptor y.desc).map (fun d => d.parameters.length) = some n) (hR : rm.frames + 1 ≤ R.frames ∧ 8 + (maxL + 11) + rm.locals ≤ R.locals) : CallW R s args own C index y bytes maxL ret (wA y bytes maxL ret) rm rm.cells rm.slots n := cwV n K.1.2.2.2.2 (gV h1 h2 h3 h4 h5) rfl rfl rfl hd hR
theorem cwSA {y : MethodName} {bytes : ByteArray} {maxL index : Nat} {ret : Option FieldType} {rm : Room} (K : Cx p s m args c cc nL own AW D cl tys A) (n : Nat) (h1 : Cond.methodLink own index y ∈ AW) (h2 : Cond.static y ∈ AW) (h4 : Cond.initialized y.cls ∈ AW) (h5 : Cond.code y bytes maxL ret ∈ AW) (hd : y.cls ≠ "java/lang/invoke/MethodHandle" ∧ y.cls ≠ "java/lang/invoke/VarHandle" ∧ (parseMethodDescriptor y.desc).map (fun d => d.parameters.length) = some n) (hR : rm.frames + 1 ≤ R.frames ∧ 8 + (maxL + 11) + rm.locals ≤ R.locals) : CallB R s args own index y bytes maxL ret (wA y bytes maxL ret) rm rm.cells rm.slots n ∧ (Cond.static y).before args s = true := va_cwS n K.1.2.2.2.2 (gS h1 h2 h4 h5) rfl rfl rfl hd hR
theorem cwNB {y : MethodName} {bytes : ByteArray} {maxL index : Nat} {host : String} {ret : Option FieldType} {rm : Room} (K : Cx p s m args c cc nL own AW D cl tys A) (n : Nat) (hq : (own, index, y, host) ∈ NWs) (h4 : Cond.initialized y.cls ∈ AW) (h5 : Cond.code y bytes maxL ret ∈ AW) (hd : y.cls ≠ "java/lang/invoke/MethodHandle" ∧ y.cls ≠ "java/lang/invoke/VarHandle" ∧ (parseMethodDescriptor y.desc).map (fun d => d.parameters.length) = some n) (hR : rm.frames + 1 ≤ R.frames ∧ 8 + (maxL + 11) + rm.locals ≤ R.locals) : va_CN R s args own index y host bytes maxL ret (wA y bytes maxL ret) rm rm.cells rm.slots n := va_cnB n K.1.2.2.2.2 (gA h5) rfl rfl rfl (K.2.2.2 _ hq) (K.1.2.2.2.2 _ h4) hd hR
theorem cwSN {y : MethodName} {bytes : ByteArray} {maxL index : Nat} {host : String} {ret : Option FieldType} {rm : Room} (K : Cx p s m args c cc nL own AW D cl tys A) (n : Nat) (hq : (own, index, y, host) ∈ NWs) (h2 : Cond.static y ∈ AW) (h4 : Cond.initialized y.cls ∈ AW) (h5 : Cond.code y bytes maxL ret ∈ AW) (hd : y.cls ≠ "java/lang/invoke/MethodHandle" ∧ y.cls ≠ "java/lang/invoke/VarHandle" ∧ (parseMethodDescriptor y.desc).map (fun d => d.parameters.length) = some n) (hR : rm.frames + 1 ≤ R.frames ∧ 8 + (maxL + 11) + rm.locals ≤ R.locals) : va_CN R s args own index y host bytes maxL ret (wA y bytes maxL ret) rm rm.cells rm.slots n ∧ (Cond.static y).before args s = true ∧ True := ⟨cwNB K n hq h4 h5 hd hR, K.1.2.2.2.2 _ h2, trivial⟩
end ZR
section ZE
variable {l : Launch} {D : va_G} {cl : List vw_C} {tys : List (ClassId × FieldType)} {S : Type} {V : S → va_W} {y : MethodName} {wy wy' : List Cond} {rm : Room} {cc : ByteArray} {nL : Nat} {u u1 : S} {av : List Value}
theorem MI.of {r : Int32} (hy : plainName y.cls = true) (hw : wy = Cond.code y cc nL (some .int) :: wy') (hlen : (lg_sl av).length ≤ nL) (body : ∀ (p : Program) (e : Env) (s : State) (m : MethodId) (below : List Frame) (meth : Method) (c : Code) (A : Nat → Prop) (Q : State → Prop), Cx p s m av.toArray c cc nL y.cls wy' D cl tys A → (∀ (pc : Nat) (lv : List (Nat × Value)), decode cc pc = .ok (.ireturn, 1) → zW p l e rm s m av.toArray below meth c D cl A nL 0 0 Q (V u1) pc lv [.int r]) → zW p l e rm s m av.toArray below meth c D cl A nL 0 0 Q (V u) 0 (lv_args 0 av) []) : MI l D cl tys V y wy rm av u r u1 := by
  intro sz
  refine Met.ofW (cc := cc) (maxL := nL) (ret := (some .int)) hy hw ?_
  intro p e s m args below meth c s₁ B hml hv
  obtain ⟨rfl, hsz, hP, hK, hD0, hN⟩ := hv
  have hts : ∀ w ∈ wy', w.before av.toArray s = true := fun w h => atoms_spec (ws := wy) B.pre w (by rw [hw]; exact List.mem_cons_of_mem _ h)
  have hown : s.vm.findClass y.cls = some m.cls := findClass_of_methodNamed B.named
  have hlocks := B.notSynchronized
  subst hsz
  have hD := hD0.self (sz := s.heap.size)
  have hA : ∀ q : Nat, s.heap.size ≤ q → va_A (V u) s.heap.size q := fun q h => Or.inr h
  have hl := lv_entry av (n := nL) hlen
  rw [lg_entry_eq]
  refine body p e s m below meth c (va_A (V u) s.heap.size) _ ⟨⟨B.exec, B.bytes, hml, hown, hts⟩, hK, hA, hN⟩ ?_ s.heap [] _ hP hD va_S.rf hl
  intro pc lv hd H locs ls hP1 hD1 hS1 hl1
  exact W.iret B.exec B.bytes B.returns (fun t ht hW => ⟨⟨r, u1, rfl, ⟨rfl, rfl⟩, by rw [ht]; exact hP1, va_K.moved hW.alike hK, hD1⟩, hS1.F ht⟩) hS1.2.2 hd hlocks
theorem ML.of {r : Int64} (hy : plainName y.cls = true) (hw : wy = Cond.code y cc nL (some .long) :: wy') (hlen : (lg_sl av).length ≤ nL) (body : ∀ (p : Program) (e : Env) (s : State) (m : MethodId) (below : List Frame) (meth : Method) (c : Code) (A : Nat → Prop) (Q : State → Prop), Cx p s m av.toArray c cc nL y.cls wy' D cl tys A → (∀ (pc : Nat) (lv : List (Nat × Value)), decode cc pc = .ok (.lreturn, 1) → zW p l e rm s m av.toArray below meth c D cl A nL 0 0 Q (V u1) pc lv [.long r]) → zW p l e rm s m av.toArray below meth c D cl A nL 0 0 Q (V u) 0 (lv_args 0 av) []) : ML l D cl tys V y wy rm av u r u1 := by
  intro sz
  refine Met.ofW (cc := cc) (maxL := nL) (ret := (some .long)) hy hw ?_
  intro p e s m args below meth c s₁ B hml hv
  obtain ⟨rfl, hsz, hP, hK, hD0, hN⟩ := hv
  have hts : ∀ w ∈ wy', w.before av.toArray s = true := fun w h => atoms_spec (ws := wy) B.pre w (by rw [hw]; exact List.mem_cons_of_mem _ h)
  have hown : s.vm.findClass y.cls = some m.cls := findClass_of_methodNamed B.named
  have hlocks := B.notSynchronized
  subst hsz
  have hD := hD0.self (sz := s.heap.size)
  have hA : ∀ q : Nat, s.heap.size ≤ q → va_A (V u) s.heap.size q := fun q h => Or.inr h
  have hl := lv_entry av (n := nL) hlen
  rw [lg_entry_eq]
  refine body p e s m below meth c (va_A (V u) s.heap.size) _ ⟨⟨B.exec, B.bytes, hml, hown, hts⟩, hK, hA, hN⟩ ?_ s.heap [] _ hP hD va_S.rf hl
  intro pc lv hd H locs ls hP1 hD1 hS1 hl1
  exact W.lret B.exec B.bytes B.returns (fun t ht hW => ⟨⟨r, u1, rfl, ⟨rfl, rfl⟩, by rw [ht]; exact hP1, va_K.moved hW.alike hK, hD1⟩, hS1.F ht⟩) hS1.2.2 hd hlocks
theorem MV.of (hy : plainName y.cls = true) (hw : wy = Cond.code y cc nL none :: wy') (hlen : (lg_sl av).length ≤ nL) (body : ∀ (p : Program) (e : Env) (s : State) (m : MethodId) (below : List Frame) (meth : Method) (c : Code) (A : Nat → Prop) (Q : State → Prop), Cx p s m av.toArray c cc nL y.cls wy' D cl tys A → (∀ (pc : Nat) (lv : List (Nat × Value)), decode cc pc = .ok (.return_, 1) → zW p l e rm s m av.toArray below meth c D cl A nL 0 0 Q (V u1) pc lv []) → zW p l e rm s m av.toArray below meth c D cl A nL 0 0 Q (V u) 0 (lv_args 0 av) []) : MV l D cl tys V y wy rm av u u1 := by
  intro sz
  refine Met.ofW (cc := cc) (maxL := nL) (ret := none) hy hw ?_
  intro p e s m args below meth c s₁ B hml hv
  obtain ⟨rfl, hsz, hP, hK, hD0, hN⟩ := hv
  have hts : ∀ w ∈ wy', w.before av.toArray s = true := fun w h => atoms_spec (ws := wy) B.pre w (by rw [hw]; exact List.mem_cons_of_mem _ h)
  have hown : s.vm.findClass y.cls = some m.cls := findClass_of_methodNamed B.named
  have hlocks := B.notSynchronized
  subst hsz
  have hD := hD0.self (sz := s.heap.size)
  have hA : ∀ q : Nat, s.heap.size ≤ q → va_A (V u) s.heap.size q := fun q h => Or.inr h
  have hl := lv_entry av (n := nL) hlen
  rw [lg_entry_eq]
  refine body p e s m below meth c (va_A (V u) s.heap.size) _ ⟨⟨B.exec, B.bytes, hml, hown, hts⟩, hK, hA, hN⟩ ?_ s.heap [] _ hP hD va_S.rf hl
  intro pc lv hd H locs ls hP1 hD1 hS1 hl1
  exact W.vret B.exec B.bytes B.returns (fun t ht hW => ⟨⟨u1, rfl, rfl, by rw [ht]; exact hP1, va_K.moved hW.alike hK, hD1⟩, hS1.F ht⟩) hS1.2.2 hd hlocks
theorem MI.ofZ {r : Bool} (hy : plainName y.cls = true) (hw : wy = Cond.code y cc nL (some .boolean) :: wy') (hlen : (lg_sl av).length ≤ nL) (body : ∀ (p : Program) (e : Env) (s : State) (m : MethodId) (below : List Frame) (meth : Method) (c : Code) (A : Nat → Prop) (Q : State → Prop), Cx p s m av.toArray c cc nL y.cls wy' D cl tys A → (∀ (pc : Nat) (lv : List (Nat × Value)), decode cc pc = .ok (.ireturn, 1) → zW p l e rm s m av.toArray below meth c D cl A nL 0 0 Q (V u1) pc lv [.int (bI r)]) → zW p l e rm s m av.toArray below meth c D cl A nL 0 0 Q (V u) 0 (lv_args 0 av) []) : MI l D cl tys V y wy rm av u (bI r) u1 := by
  intro sz
  refine Met.ofW (cc := cc) (maxL := nL) (ret := (some .boolean)) hy hw ?_
  intro p e s m args below meth c s₁ B hml hv
  obtain ⟨rfl, hsz, hP, hK, hD0, hN⟩ := hv
  have hts : ∀ w ∈ wy', w.before av.toArray s = true := fun w h => atoms_spec (ws := wy) B.pre w (by rw [hw]; exact List.mem_cons_of_mem _ h)
  have hown : s.vm.findClass y.cls = some m.cls := findClass_of_methodNamed B.named
  have hlocks := B.notSynchronized
  subst hsz
  have hD := hD0.self (sz := s.heap.size)
  have hA : ∀ q : Nat, s.heap.size ≤ q → va_A (V u) s.heap.size q := fun q h => Or.inr h
  have hl := lv_entry av (n := nL) hlen
  rw [lg_entry_eq]
  refine body p e s m below meth c (va_A (V u) s.heap.size) _ ⟨⟨B.exec, B.bytes, hml, hown, hts⟩, hK, hA, hN⟩ ?_ s.heap [] _ hP hD va_S.rf hl
  intro pc lv hd H locs ls hP1 hD1 hS1 hl1
  exact W.zret B.exec B.bytes B.returns (by cases r <;> rfl) (fun t ht hW => ⟨⟨bI r, u1, rfl, ⟨rfl, rfl⟩, by rw [ht]; exact hP1, va_K.moved hW.alike hK, hD1⟩, hS1.F ht⟩) hS1.2.2 hd hlocks
end ZE
end
